theorem dX2_init_0 : decode cX2_init 0 = .ok (.aload_n 0, 1) := by decide +kernel
theorem dX2_init_1 : decode cX2_init 1 = .ok (.invokespecial 3, 3) := by decide +kernel
theorem dX2_init_4 : decode cX2_init 4 = .ok (.aload_n 0, 1) := by decide +kernel
theorem dX2_init_5 : decode cX2_init 5 = .ok (.aload_n 1, 1) := by decide +kernel
theorem dX2_init_6 : decode cX2_init 6 = .ok (.putfield 9, 3) := by decide +kernel
theorem dX2_init_9 : decode cX2_init 9 = .ok (.aload_n 0, 1) := by decide +kernel
theorem dX2_init_10 : decode cX2_init 10 = .ok (.aload_n 2, 1) := by decide +kernel
theorem dX2_init_11 : decode cX2_init 11 = .ok (.putfield 15, 3) := by decide +kernel
theorem dX2_init_14 : decode cX2_init 14 = .ok (.aload_n 0, 1) := by decide +kernel
theorem dX2_init_15 : decode cX2_init 15 = .ok (.aload_n 3, 1) := by decide +kernel
theorem dX2_init_16 : decode cX2_init 16 = .ok (.putfield 19, 3) := by decide +kernel
theorem dX2_init_19 : decode cX2_init 19 = .ok (.aload_n 0, 1) := by decide +kernel
theorem dX2_init_20 : decode cX2_init 20 = .ok (.bipush 36, 2) := by decide +kernel
theorem dX2_init_22 : decode cX2_init 22 = .ok (.newarray .int, 2) := by decide +kernel
theorem dX2_init_24 : decode cX2_init 24 = .ok (.putfield 23, 3) := by decide +kernel
theorem dX2_init_27 : decode cX2_init 27 = .ok (.aload_n 0, 1) := by decide +kernel
theorem dX2_init_28 : decode cX2_init 28 = .ok (.bipush 36, 2) := by decide +kernel
theorem dX2_init_30 : decode cX2_init 30 = .ok (.newarray .int, 2) := by decide +kernel
theorem dX2_init_32 : decode cX2_init 32 = .ok (.putfield 26, 3) := by decide +kernel
theorem dX2_init_35 : decode cX2_init 35 = .ok (.aload_n 0, 1) := by decide +kernel
theorem dX2_init_36 : decode cX2_init 36 = .ok (.bipush 36, 2) := by decide +kernel
theorem dX2_init_38 : decode cX2_init 38 = .ok (.newarray .int, 2) := by decide +kernel
theorem dX2_init_40 : decode cX2_init 40 = .ok (.putfield 29, 3) := by decide +kernel
theorem dX2_init_43 : decode cX2_init 43 = .ok (.return_, 1) := by decide +kernel
set_option maxRecDepth 20000 in
theorem ggX2_make_X1_greyAt : GoodIn wsX2_make wsX1_greyAt := goodIn_r _ [12, 13, 14, 15, 16, 11, 17, 18, 19, 20, 21, 22, 23, 90, 91, 92, 93, 94] (by decide +kernel) (by decide +kernel)
set_option maxRecDepth 20000 in
theorem gX2_make_X1_greyAt : GoodIn wsX2_make (wsV RX2 38 RX1 yX1_greyAt wsX1_greyAt) := goodIn_app (goodIn_of _ (by decide +kernel)) ggX2_make_X1_greyAt
set_option maxRecDepth 20000 in
theorem ggX2_make_X2_apply : GoodIn wsX2_make wsX2_apply := goodIn_r _ [28, 3, 29, 30, 31, 32, 33, 4, 6, 34, 35, 36, 37, 38, 39, 27, 40, 1, 2, 41, 42, 43, 44, 45, 46, 47, 48, 49, 8, 9, 10, 11, 12, 13, 14, 15, 16, 17, 18, 19, 20, 21, 22, 23, 50, 51, 52, 53, 54, 55, 56, 57, 58, 59, 60, 61, 62, 63, 64, 65, 66, 67, 68, 69, 70, 71, 72, 73, 74, 75, 76, 77, 78, 79, 80, 81, 82, 83, 84, 85, 86, 87, 88, 89, 95, 96, 97, 98, 99, 100, 90, 91, 92, 93, 94] (by decide +kernel) (by decide +kernel)
set_option maxRecDepth 20000 in
theorem gX2_make_X2_apply : GoodIn wsX2_make (wsV RX2 54 RX2 yX2_apply wsX2_apply) := goodIn_app (goodIn_of _ (by decide +kernel)) ggX2_make_X2_apply
theorem dX2_make_0 : decode cX2_make 0 = .ok (.iconst 0, 1) := by decide +kernel
theorem dX2_make_1 : decode cX2_make 1 = .ok (.istore_n 3, 1) := by decide +kernel
theorem dX2_make_2 : decode cX2_make 2 = .ok (.iload_n 3, 1) := by decide +kernel
theorem dX2_make_3 : decode cX2_make 3 = .ok (.aload_n 0, 1) := by decide +kernel
theorem dX2_make_4 : decode cX2_make 4 = .ok (.getfield 9, 3) := by decide +kernel
theorem dX2_make_7 : decode cX2_make 7 = .ok (.getfield 32, 3) := by decide +kernel
theorem dX2_make_10 : decode cX2_make 10 = .ok (.if_icmp .ge 24, 3) := by decide +kernel
theorem dX2_make_13 : decode cX2_make 13 = .ok (.aload_n 0, 1) := by decide +kernel
theorem dX2_make_14 : decode cX2_make 14 = .ok (.getfield 23, 3) := by decide +kernel
theorem dX2_make_17 : decode cX2_make 17 = .ok (.iload_n 3, 1) := by decide +kernel
theorem dX2_make_18 : decode cX2_make 18 = .ok (.aload_n 0, 1) := by decide +kernel
theorem dX2_make_19 : decode cX2_make 19 = .ok (.getfield 9, 3) := by decide +kernel
theorem dX2_make_22 : decode cX2_make 22 = .ok (.iload_n 1, 1) := by decide +kernel
theorem dX2_make_23 : decode cX2_make 23 = .ok (.iload_n 3, 1) := by decide +kernel
theorem dX2_make_24 : decode cX2_make 24 = .ok (.invokevirtual 38, 3) := by decide +kernel
theorem dX2_make_27 : decode cX2_make 27 = .ok (.iastore, 1) := by decide +kernel
theorem dX2_make_28 : decode cX2_make 28 = .ok (.iinc 3 1, 3) := by decide +kernel
theorem dX2_make_31 : decode cX2_make 31 = .ok (.goto (-29), 3) := by decide +kernel
theorem dX2_make_34 : decode cX2_make 34 = .ok (.iconst 0, 1) := by decide +kernel
theorem dX2_make_35 : decode cX2_make 35 = .ok (.istore_n 3, 1) := by decide +kernel
theorem dX2_make_36 : decode cX2_make 36 = .ok (.iload_n 3, 1) := by decide +kernel
theorem dX2_make_37 : decode cX2_make 37 = .ok (.iload_n 2, 1) := by decide +kernel
theorem dX2_make_38 : decode cX2_make 38 = .ok (.if_icmp .ge 50, 3) := by decide +kernel
theorem dX2_make_41 : decode cX2_make 41 = .ok (.iload_n 3, 1) := by decide +kernel
theorem dX2_make_42 : decode cX2_make 42 = .ok (.aload_n 0, 1) := by decide +kernel
theorem dX2_make_43 : decode cX2_make 43 = .ok (.getfield 15, 3) := by decide +kernel
theorem dX2_make_46 : decode cX2_make 46 = .ok (.getfield 42, 3) := by decide +kernel
theorem dX2_make_49 : decode cX2_make 49 = .ok (.if_icmp .ge 39, 3) := by decide +kernel
theorem dX2_make_52 : decode cX2_make 52 = .ok (.aload_n 0, 1) := by decide +kernel
theorem dX2_make_53 : decode cX2_make 53 = .ok (.getfield 15, 3) := by decide +kernel
theorem dX2_make_56 : decode cX2_make 56 = .ok (.getfield 47, 3) := by decide +kernel
theorem dX2_make_59 : decode cX2_make 59 = .ok (.iload_n 3, 1) := by decide +kernel
theorem dX2_make_60 : decode cX2_make 60 = .ok (.iaload, 1) := by decide +kernel
theorem dX2_make_61 : decode cX2_make 61 = .ok (.iload_n 1, 1) := by decide +kernel
theorem dX2_make_62 : decode cX2_make 62 = .ok (.if_icmp .ne 20, 3) := by decide +kernel
theorem dX2_make_65 : decode cX2_make 65 = .ok (.aload_n 0, 1) := by decide +kernel
theorem dX2_make_66 : decode cX2_make 66 = .ok (.getfield 15, 3) := by decide +kernel
theorem dX2_make_69 : decode cX2_make 69 = .ok (.getfield 50, 3) := by decide +kernel
theorem dX2_make_72 : decode cX2_make 72 = .ok (.iload_n 3, 1) := by decide +kernel
theorem dX2_make_73 : decode cX2_make 73 = .ok (.baload, 1) := by decide +kernel
theorem dX2_make_74 : decode cX2_make 74 = .ok (.ifCond .eq 8, 3) := by decide +kernel
theorem dX2_make_77 : decode cX2_make 77 = .ok (.aload_n 0, 1) := by decide +kernel
theorem dX2_make_78 : decode cX2_make 78 = .ok (.iload_n 3, 1) := by decide +kernel
theorem dX2_make_79 : decode cX2_make 79 = .ok (.invokevirtual 54, 3) := by decide +kernel
theorem dX2_make_82 : decode cX2_make 82 = .ok (.iinc 3 1, 3) := by decide +kernel
theorem dX2_make_85 : decode cX2_make 85 = .ok (.goto (-49), 3) := by decide +kernel
theorem dX2_make_88 : decode cX2_make 88 = .ok (.return_, 1) := by decide +kernel
set_option maxRecDepth 20000 in
theorem ggX2_apply_X2_cleanDust : GoodIn wsX2_apply wsX2_cleanDust := goodIn_r _ [16, 17, 18, 2, 1, 19, 20, 21, 15, 22, 23, 24, 25, 26, 27, 28, 29, 30, 31, 32, 33, 34, 35, 36, 37, 38, 39, 40, 41, 42, 43, 78, 79, 80, 81, 82, 83, 90, 91, 92, 93, 94] (by decide +kernel) (by decide +kernel)
set_option maxRecDepth 20000 in
theorem gX2_apply_X2_cleanDust : GoodIn wsX2_apply (wsV RX2 67 RX2 yX2_cleanDust wsX2_cleanDust) := goodIn_app (goodIn_of _ (by decide +kernel)) ggX2_apply_X2_cleanDust
set_option maxRecDepth 20000 in
theorem ggX2_apply_X2_matchLevels : GoodIn wsX2_apply wsX2_matchLevels := goodIn_r _ [47, 17, 18, 2, 1, 48, 49, 50, 51, 15, 52, 28, 29, 30, 31, 32, 33, 34, 35, 36, 37, 38, 39, 40, 41, 42, 43, 53, 54, 55, 56, 57, 58, 59, 60, 78, 79, 80, 81, 82, 83, 90, 91, 92, 93, 94] (by decide +kernel) (by decide +kernel)
set_option maxRecDepth 20000 in
theorem gX2_apply_X2_matchLevels : GoodIn wsX2_apply (wsV RX2 73 RX2 yX2_matchLevels wsX2_matchLevels) := goodIn_app (goodIn_of _ (by decide +kernel)) ggX2_apply_X2_matchLevels
set_option maxRecDepth 20000 in
theorem ggX2_apply_X2_fillLost : GoodIn wsX2_apply wsX2_fillLost := goodIn_r _ [64, 17, 18, 2, 1, 28, 29, 30, 31, 32, 33, 34, 35, 36, 37, 38, 39, 40, 41, 42, 43, 78, 79, 80, 81, 82, 83, 90, 91, 92, 93, 94] (by decide +kernel) (by decide +kernel)
set_option maxRecDepth 20000 in
theorem gX2_apply_X2_fillLost : GoodIn wsX2_apply (wsV RX2 76 RX2 yX2_fillLost wsX2_fillLost) := goodIn_app (goodIn_of _ (by decide +kernel)) ggX2_apply_X2_fillLost
set_option maxRecDepth 20000 in
theorem ggX2_apply_X2_moveAll : GoodIn wsX2_apply wsX2_moveAll := goodIn_r _ [68, 17, 69, 70, 1, 2, 71, 72, 73, 31, 74, 75, 76, 77, 40, 41, 42, 43, 78, 79, 80, 81, 82, 83, 90, 91, 92, 93, 94] (by decide +kernel) (by decide +kernel)
set_option maxRecDepth 20000 in
theorem gX2_apply_X2_moveAll : GoodIn wsX2_apply (wsV RX2 82 RX2 yX2_moveAll wsX2_moveAll) := goodIn_app (goodIn_of _ (by decide +kernel)) ggX2_apply_X2_moveAll
theorem dX2_apply_0 : decode cX2_apply 0 = .ok (.aload_n 0, 1) := by decide +kernel
theorem dX2_apply_1 : decode cX2_apply 1 = .ok (.getfield 23, 3) := by decide +kernel
theorem dX2_apply_4 : decode cX2_apply 4 = .ok (.iconst 0, 1) := by decide +kernel
theorem dX2_apply_5 : decode cX2_apply 5 = .ok (.aload_n 0, 1) := by decide +kernel
theorem dX2_apply_6 : decode cX2_apply 6 = .ok (.getfield 26, 3) := by decide +kernel
theorem dX2_apply_9 : decode cX2_apply 9 = .ok (.iconst 0, 1) := by decide +kernel
theorem dX2_apply_10 : decode cX2_apply 10 = .ok (.bipush 36, 2) := by decide +kernel
theorem dX2_apply_12 : decode cX2_apply 12 = .ok (.invokestatic 58, 3) := by decide +kernel
theorem dX2_apply_15 : decode cX2_apply 15 = .ok (.aload_n 0, 1) := by decide +kernel
theorem dX2_apply_16 : decode cX2_apply 16 = .ok (.getfield 15, 3) := by decide +kernel
theorem dX2_apply_19 : decode cX2_apply 19 = .ok (.getfield 47, 3) := by decide +kernel
theorem dX2_apply_22 : decode cX2_apply 22 = .ok (.iload_n 1, 1) := by decide +kernel
theorem dX2_apply_23 : decode cX2_apply 23 = .ok (.iaload, 1) := by decide +kernel
theorem dX2_apply_24 : decode cX2_apply 24 = .ok (.istore_n 2, 1) := by decide +kernel
theorem dX2_apply_25 : decode cX2_apply 25 = .ok (.aload_n 0, 1) := by decide +kernel
theorem dX2_apply_26 : decode cX2_apply 26 = .ok (.getfield 15, 3) := by decide +kernel
theorem dX2_apply_29 : decode cX2_apply 29 = .ok (.getfield 64, 3) := by decide +kernel
theorem dX2_apply_32 : decode cX2_apply 32 = .ok (.iload_n 1, 1) := by decide +kernel
theorem dX2_apply_33 : decode cX2_apply 33 = .ok (.iaload, 1) := by decide +kernel
theorem dX2_apply_34 : decode cX2_apply 34 = .ok (.tableswitch 58 0 2 #[26, 34, 50], 26) := by decide +kernel
theorem dX2_apply_60 : decode cX2_apply 60 = .ok (.aload_n 0, 1) := by decide +kernel
theorem dX2_apply_61 : decode cX2_apply 61 = .ok (.iload_n 2, 1) := by decide +kernel
theorem dX2_apply_62 : decode cX2_apply 62 = .ok (.invokevirtual 67, 3) := by decide +kernel
theorem dX2_apply_65 : decode cX2_apply 65 = .ok (.goto 49, 3) := by decide +kernel
theorem dX2_apply_68 : decode cX2_apply 68 = .ok (.aload_n 0, 1) := by decide +kernel
theorem dX2_apply_69 : decode cX2_apply 69 = .ok (.aload_n 0, 1) := by decide +kernel
theorem dX2_apply_70 : decode cX2_apply 70 = .ok (.getfield 15, 3) := by decide +kernel
theorem dX2_apply_73 : decode cX2_apply 73 = .ok (.getfield 70, 3) := by decide +kernel
theorem dX2_apply_76 : decode cX2_apply 76 = .ok (.iload_n 1, 1) := by decide +kernel
theorem dX2_apply_77 : decode cX2_apply 77 = .ok (.iaload, 1) := by decide +kernel
theorem dX2_apply_78 : decode cX2_apply 78 = .ok (.invokevirtual 73, 3) := by decide +kernel
theorem dX2_apply_81 : decode cX2_apply 81 = .ok (.goto 33, 3) := by decide +kernel
theorem dX2_apply_84 : decode cX2_apply 84 = .ok (.aload_n 0, 1) := by decide +kernel
theorem dX2_apply_85 : decode cX2_apply 85 = .ok (.iload_n 2, 1) := by decide +kernel
theorem dX2_apply_86 : decode cX2_apply 86 = .ok (.invokevirtual 76, 3) := by decide +kernel
theorem dX2_apply_89 : decode cX2_apply 89 = .ok (.goto 25, 3) := by decide +kernel
theorem dX2_apply_92 : decode cX2_apply 92 = .ok (.aload_n 0, 1) := by decide +kernel
theorem dX2_apply_93 : decode cX2_apply 93 = .ok (.aload_n 0, 1) := by decide +kernel
theorem dX2_apply_94 : decode cX2_apply 94 = .ok (.getfield 15, 3) := by decide +kernel
theorem dX2_apply_97 : decode cX2_apply 97 = .ok (.getfield 70, 3) := by decide +kernel
theorem dX2_apply_100 : decode cX2_apply 100 = .ok (.iload_n 1, 1) := by decide +kernel
theorem dX2_apply_101 : decode cX2_apply 101 = .ok (.iaload, 1) := by decide +kernel
theorem dX2_apply_102 : decode cX2_apply 102 = .ok (.aload_n 0, 1) := by decide +kernel
theorem dX2_apply_103 : decode cX2_apply 103 = .ok (.getfield 15, 3) := by decide +kernel
theorem dX2_apply_106 : decode cX2_apply 106 = .ok (.getfield 79, 3) := by decide +kernel
theorem dX2_apply_109 : decode cX2_apply 109 = .ok (.iload_n 1, 1) := by decide +kernel
theorem dX2_apply_110 : decode cX2_apply 110 = .ok (.iaload, 1) := by decide +kernel
theorem dX2_apply_111 : decode cX2_apply 111 = .ok (.invokevirtual 82, 3) := by decide +kernel
theorem dX2_apply_114 : decode cX2_apply 114 = .ok (.return_, 1) := by decide +kernel
set_option maxRecDepth 20000 in
theorem ggX2_cleanDust_X2_isDust : GoodIn wsX2_cleanDust wsX2_isDust := goodIn_r _ [9, 1, 10, 11, 12, 13, 14, 15, 16, 17, 18, 19, 20, 21, 22, 23, 24, 25, 26, 27, 28, 29, 30, 31, 32, 33, 34, 35, 36, 37, 38, 39, 40, 41] (by decide +kernel) (by decide +kernel)
set_option maxRecDepth 20000 in
theorem gX2_cleanDust_X2_isDust : GoodIn wsX2_cleanDust (wsV RX2 86 RX2 yX2_isDust wsX2_isDust) := goodIn_app (goodIn_of _ (by decide +kernel)) ggX2_cleanDust_X2_isDust
set_option maxRecDepth 20000 in
theorem ggX2_cleanDust_X1_greyAt : GoodIn wsX2_cleanDust wsX1_greyAt := goodIn_r _ [19, 20, 21, 22, 23, 18, 24, 25, 26, 27, 28, 29, 30, 37, 38, 39, 40, 41] (by decide +kernel) (by decide +kernel)
set_option maxRecDepth 20000 in
theorem gX2_cleanDust_X1_greyAt : GoodIn wsX2_cleanDust (wsV RX2 38 RX1 yX1_greyAt wsX1_greyAt) := goodIn_app (goodIn_of _ (by decide +kernel)) ggX2_cleanDust_X1_greyAt
theorem dX2_cleanDust_0 : decode cX2_cleanDust 0 = .ok (.iconst 0, 1) := by decide +kernel
theorem dX2_cleanDust_1 : decode cX2_cleanDust 1 = .ok (.istore_n 2, 1) := by decide +kernel
theorem dX2_cleanDust_2 : decode cX2_cleanDust 2 = .ok (.iload_n 2, 1) := by decide +kernel
theorem dX2_cleanDust_3 : decode cX2_cleanDust 3 = .ok (.aload_n 0, 1) := by decide +kernel
theorem dX2_cleanDust_4 : decode cX2_cleanDust 4 = .ok (.getfield 9, 3) := by decide +kernel
theorem dX2_cleanDust_7 : decode cX2_cleanDust 7 = .ok (.getfield 32, 3) := by decide +kernel
theorem dX2_cleanDust_10 : decode cX2_cleanDust 10 = .ok (.if_icmp .ge 55, 3) := by decide +kernel
theorem dX2_cleanDust_13 : decode cX2_cleanDust 13 = .ok (.aload_n 0, 1) := by decide +kernel
theorem dX2_cleanDust_14 : decode cX2_cleanDust 14 = .ok (.aload_n 0, 1) := by decide +kernel
theorem dX2_cleanDust_15 : decode cX2_cleanDust 15 = .ok (.getfield 26, 3) := by decide +kernel
theorem dX2_cleanDust_18 : decode cX2_cleanDust 18 = .ok (.iload_n 2, 1) := by decide +kernel
theorem dX2_cleanDust_19 : decode cX2_cleanDust 19 = .ok (.iaload, 1) := by decide +kernel
theorem dX2_cleanDust_20 : decode cX2_cleanDust 20 = .ok (.iload_n 1, 1) := by decide +kernel
theorem dX2_cleanDust_21 : decode cX2_cleanDust 21 = .ok (.iload_n 2, 1) := by decide +kernel
theorem dX2_cleanDust_22 : decode cX2_cleanDust 22 = .ok (.invokevirtual 86, 3) := by decide +kernel
theorem dX2_cleanDust_25 : decode cX2_cleanDust 25 = .ok (.ifCond .eq 34, 3) := by decide +kernel
theorem dX2_cleanDust_28 : decode cX2_cleanDust 28 = .ok (.aload_n 0, 1) := by decide +kernel
theorem dX2_cleanDust_29 : decode cX2_cleanDust 29 = .ok (.getfield 23, 3) := by decide +kernel
theorem dX2_cleanDust_32 : decode cX2_cleanDust 32 = .ok (.iload_n 2, 1) := by decide +kernel
theorem dX2_cleanDust_33 : decode cX2_cleanDust 33 = .ok (.aload_n 0, 1) := by decide +kernel
theorem dX2_cleanDust_34 : decode cX2_cleanDust 34 = .ok (.getfield 9, 3) := by decide +kernel
theorem dX2_cleanDust_37 : decode cX2_cleanDust 37 = .ok (.iload_n 1, 1) := by decide +kernel
theorem dX2_cleanDust_38 : decode cX2_cleanDust 38 = .ok (.iconst 1, 1) := by decide +kernel
theorem dX2_cleanDust_39 : decode cX2_cleanDust 39 = .ok (.isub, 1) := by decide +kernel
theorem dX2_cleanDust_40 : decode cX2_cleanDust 40 = .ok (.iload_n 2, 1) := by decide +kernel
theorem dX2_cleanDust_41 : decode cX2_cleanDust 41 = .ok (.invokevirtual 38, 3) := by decide +kernel
theorem dX2_cleanDust_44 : decode cX2_cleanDust 44 = .ok (.aload_n 0, 1) := by decide +kernel
theorem dX2_cleanDust_45 : decode cX2_cleanDust 45 = .ok (.getfield 9, 3) := by decide +kernel
theorem dX2_cleanDust_48 : decode cX2_cleanDust 48 = .ok (.iload_n 1, 1) := by decide +kernel
theorem dX2_cleanDust_49 : decode cX2_cleanDust 49 = .ok (.iconst 1, 1) := by decide +kernel
theorem dX2_cleanDust_50 : decode cX2_cleanDust 50 = .ok (.iadd, 1) := by decide +kernel
theorem dX2_cleanDust_51 : decode cX2_cleanDust 51 = .ok (.iload_n 2, 1) := by decide +kernel
theorem dX2_cleanDust_52 : decode cX2_cleanDust 52 = .ok (.invokevirtual 38, 3) := by decide +kernel
theorem dX2_cleanDust_55 : decode cX2_cleanDust 55 = .ok (.iadd, 1) := by decide +kernel
theorem dX2_cleanDust_56 : decode cX2_cleanDust 56 = .ok (.iconst 2, 1) := by decide +kernel
theorem dX2_cleanDust_57 : decode cX2_cleanDust 57 = .ok (.idiv, 1) := by decide +kernel
theorem dX2_cleanDust_58 : decode cX2_cleanDust 58 = .ok (.iastore, 1) := by decide +kernel
theorem dX2_cleanDust_59 : decode cX2_cleanDust 59 = .ok (.iinc 2 1, 3) := by decide +kernel
theorem dX2_cleanDust_62 : decode cX2_cleanDust 62 = .ok (.goto (-60), 3) := by decide +kernel
theorem dX2_cleanDust_65 : decode cX2_cleanDust 65 = .ok (.return_, 1) := by decide +kernel
set_option maxRecDepth 20000 in
theorem ggX2_isDust_X1_greyAt : GoodIn wsX2_isDust wsX1_greyAt := goodIn_r _ [11, 12, 13, 14, 15, 10, 16, 17, 18, 19, 20, 21, 22, 29, 30, 31, 32, 33] (by decide +kernel) (by decide +kernel)
set_option maxRecDepth 20000 in
theorem gX2_isDust_X1_greyAt : GoodIn wsX2_isDust (wsV RX2 38 RX1 yX1_greyAt wsX1_greyAt) := goodIn_app (goodIn_of _ (by decide +kernel)) ggX2_isDust_X1_greyAt
theorem dX2_isDust_0 : decode cX2_isDust 0 = .ok (.aload_n 0, 1) := by decide +kernel
theorem dX2_isDust_1 : decode cX2_isDust 1 = .ok (.getfield 9, 3) := by decide +kernel
theorem dX2_isDust_4 : decode cX2_isDust 4 = .ok (.iload_n 2, 1) := by decide +kernel
theorem dX2_isDust_5 : decode cX2_isDust 5 = .ok (.iconst 1, 1) := by decide +kernel
theorem dX2_isDust_6 : decode cX2_isDust 6 = .ok (.isub, 1) := by decide +kernel
theorem dX2_isDust_7 : decode cX2_isDust 7 = .ok (.iload_n 3, 1) := by decide +kernel
theorem dX2_isDust_8 : decode cX2_isDust 8 = .ok (.invokevirtual 38, 3) := by decide +kernel
theorem dX2_isDust_11 : decode cX2_isDust 11 = .ok (.istore 4, 2) := by decide +kernel
theorem dX2_isDust_13 : decode cX2_isDust 13 = .ok (.aload_n 0, 1) := by decide +kernel
theorem dX2_isDust_14 : decode cX2_isDust 14 = .ok (.getfield 9, 3) := by decide +kernel
theorem dX2_isDust_17 : decode cX2_isDust 17 = .ok (.iload_n 2, 1) := by decide +kernel
theorem dX2_isDust_18 : decode cX2_isDust 18 = .ok (.iconst 1, 1) := by decide +kernel
theorem dX2_isDust_19 : decode cX2_isDust 19 = .ok (.iadd, 1) := by decide +kernel
theorem dX2_isDust_20 : decode cX2_isDust 20 = .ok (.iload_n 3, 1) := by decide +kernel
theorem dX2_isDust_21 : decode cX2_isDust 21 = .ok (.invokevirtual 38, 3) := by decide +kernel
theorem dX2_isDust_24 : decode cX2_isDust 24 = .ok (.istore 5, 2) := by decide +kernel
theorem dX2_isDust_26 : decode cX2_isDust 26 = .ok (.iload_n 1, 1) := by decide +kernel
theorem dX2_isDust_27 : decode cX2_isDust 27 = .ok (.iconst (-1), 1) := by decide +kernel
theorem dX2_isDust_28 : decode cX2_isDust 28 = .ok (.if_icmp .eq 15, 3) := by decide +kernel
theorem dX2_isDust_31 : decode cX2_isDust 31 = .ok (.iload 4, 2) := by decide +kernel
theorem dX2_isDust_33 : decode cX2_isDust 33 = .ok (.iconst (-1), 1) := by decide +kernel
theorem dX2_isDust_34 : decode cX2_isDust 34 = .ok (.if_icmp .eq 9, 3) := by decide +kernel
theorem dX2_isDust_37 : decode cX2_isDust 37 = .ok (.iload 5, 2) := by decide +kernel
theorem dX2_isDust_39 : decode cX2_isDust 39 = .ok (.iconst (-1), 1) := by decide +kernel
theorem dX2_isDust_40 : decode cX2_isDust 40 = .ok (.if_icmp .ne 5, 3) := by decide +kernel
theorem dX2_isDust_43 : decode cX2_isDust 43 = .ok (.iconst 0, 1) := by decide +kernel
theorem dX2_isDust_44 : decode cX2_isDust 44 = .ok (.ireturn, 1) := by decide +kernel
theorem dX2_isDust_45 : decode cX2_isDust 45 = .ok (.iload 4, 2) := by decide +kernel
theorem dX2_isDust_47 : decode cX2_isDust 47 = .ok (.iload 5, 2) := by decide +kernel
theorem dX2_isDust_49 : decode cX2_isDust 49 = .ok (.isub, 1) := by decide +kernel
theorem dX2_isDust_50 : decode cX2_isDust 50 = .ok (.invokestatic 90, 3) := by decide +kernel
theorem dX2_isDust_53 : decode cX2_isDust 53 = .ok (.aload_n 0, 1) := by decide +kernel
theorem dX2_isDust_54 : decode cX2_isDust 54 = .ok (.getfield 19, 3) := by decide +kernel
theorem dX2_isDust_57 : decode cX2_isDust 57 = .ok (.iconst 1, 1) := by decide +kernel
theorem dX2_isDust_58 : decode cX2_isDust 58 = .ok (.iaload, 1) := by decide +kernel
theorem dX2_isDust_59 : decode cX2_isDust 59 = .ok (.if_icmp .gt 39, 3) := by decide +kernel
theorem dX2_isDust_62 : decode cX2_isDust 62 = .ok (.iload_n 1, 1) := by decide +kernel
theorem dX2_isDust_63 : decode cX2_isDust 63 = .ok (.iload 4, 2) := by decide +kernel
theorem dX2_isDust_65 : decode cX2_isDust 65 = .ok (.isub, 1) := by decide +kernel
theorem dX2_isDust_66 : decode cX2_isDust 66 = .ok (.invokestatic 90, 3) := by decide +kernel
theorem dX2_isDust_69 : decode cX2_isDust 69 = .ok (.aload_n 0, 1) := by decide +kernel
theorem dX2_isDust_70 : decode cX2_isDust 70 = .ok (.getfield 19, 3) := by decide +kernel
theorem dX2_isDust_73 : decode cX2_isDust 73 = .ok (.iconst 2, 1) := by decide +kernel
theorem dX2_isDust_74 : decode cX2_isDust 74 = .ok (.iaload, 1) := by decide +kernel
theorem dX2_isDust_75 : decode cX2_isDust 75 = .ok (.if_icmp .le 23, 3) := by decide +kernel
theorem dX2_isDust_78 : decode cX2_isDust 78 = .ok (.iload_n 1, 1) := by decide +kernel
theorem dX2_isDust_79 : decode cX2_isDust 79 = .ok (.iload 5, 2) := by decide +kernel
theorem dX2_isDust_81 : decode cX2_isDust 81 = .ok (.isub, 1) := by decide +kernel
theorem dX2_isDust_82 : decode cX2_isDust 82 = .ok (.invokestatic 90, 3) := by decide +kernel
theorem dX2_isDust_85 : decode cX2_isDust 85 = .ok (.aload_n 0, 1) := by decide +kernel
theorem dX2_isDust_86 : decode cX2_isDust 86 = .ok (.getfield 19, 3) := by decide +kernel
theorem dX2_isDust_89 : decode cX2_isDust 89 = .ok (.iconst 2, 1) := by decide +kernel
theorem dX2_isDust_90 : decode cX2_isDust 90 = .ok (.iaload, 1) := by decide +kernel
theorem dX2_isDust_91 : decode cX2_isDust 91 = .ok (.if_icmp .le 7, 3) := by decide +kernel
theorem dX2_isDust_94 : decode cX2_isDust 94 = .ok (.iconst 1, 1) := by decide +kernel
theorem dX2_isDust_95 : decode cX2_isDust 95 = .ok (.goto 4, 3) := by decide +kernel
theorem dX2_isDust_98 : decode cX2_isDust 98 = .ok (.iconst 0, 1) := by decide +kernel
theorem dX2_isDust_99 : decode cX2_isDust 99 = .ok (.ireturn, 1) := by decide +kernel
set_option maxRecDepth 20000 in
theorem ggX2_matchLevels_X2_sortGreysOf : GoodIn wsX2_matchLevels wsX2_sortGreysOf := goodIn_r _ [10, 1, 2, 5, 11, 12, 13, 14, 15, 16, 17, 18, 19, 20, 21, 22, 23, 24, 25, 26, 35, 36, 37, 38, 39, 40, 41, 42, 43, 44, 45] (by decide +kernel) (by decide +kernel)
set_option maxRecDepth 20000 in
theorem gX2_matchLevels_X2_sortGreysOf : GoodIn wsX2_matchLevels (wsV RX2 96 RX2 yX2_sortGreysOf wsX2_sortGreysOf) := goodIn_app (goodIn_of _ (by decide +kernel)) ggX2_matchLevels_X2_sortGreysOf
set_option maxRecDepth 20000 in
theorem ggX2_matchLevels_X2_countLost : GoodIn wsX2_matchLevels wsX2_countLost := goodIn_r _ [30, 1, 2, 4, 35, 36, 37, 38, 39, 40, 41, 42, 43, 44, 45] (by decide +kernel) (by decide +kernel)
set_option maxRecDepth 20000 in
theorem gX2_matchLevels_X2_countLost : GoodIn wsX2_matchLevels (wsV RX2 99 RX2 yX2_countLost wsX2_countLost) := goodIn_app (goodIn_of _ (by decide +kernel)) ggX2_matchLevels_X2_countLost
set_option maxRecDepth 20000 in
theorem ggX2_matchLevels_X2_middleRankOf : GoodIn wsX2_matchLevels wsX2_middleRankOf := goodIn_r _ [34, 1, 2, 3, 35, 36, 37, 38, 39, 40, 41, 42, 43, 44, 45] (by decide +kernel) (by decide +kernel)
set_option maxRecDepth 20000 in
theorem gX2_matchLevels_X2_middleRankOf : GoodIn wsX2_matchLevels (wsV RX2 103 RX2 yX2_middleRankOf wsX2_middleRankOf) := goodIn_app (goodIn_of _ (by decide +kernel)) ggX2_matchLevels_X2_middleRankOf
theorem dX2_matchLevels_0 : decode cX2_matchLevels 0 = .ok (.aload_n 0, 1) := by decide +kernel
theorem dX2_matchLevels_1 : decode cX2_matchLevels 1 = .ok (.iload_n 1, 1) := by decide +kernel
theorem dX2_matchLevels_2 : decode cX2_matchLevels 2 = .ok (.invokevirtual 96, 3) := by decide +kernel
theorem dX2_matchLevels_5 : decode cX2_matchLevels 5 = .ok (.istore_n 2, 1) := by decide +kernel
theorem dX2_matchLevels_6 : decode cX2_matchLevels 6 = .ok (.aload_n 0, 1) := by decide +kernel
theorem dX2_matchLevels_7 : decode cX2_matchLevels 7 = .ok (.getfield 9, 3) := by decide +kernel
theorem dX2_matchLevels_10 : decode cX2_matchLevels 10 = .ok (.getfield 32, 3) := by decide +kernel
theorem dX2_matchLevels_13 : decode cX2_matchLevels 13 = .ok (.aload_n 0, 1) := by decide +kernel
theorem dX2_matchLevels_14 : decode cX2_matchLevels 14 = .ok (.invokevirtual 99, 3) := by decide +kernel
theorem dX2_matchLevels_17 : decode cX2_matchLevels 17 = .ok (.isub, 1) := by decide +kernel
theorem dX2_matchLevels_18 : decode cX2_matchLevels 18 = .ok (.istore_n 3, 1) := by decide +kernel
theorem dX2_matchLevels_19 : decode cX2_matchLevels 19 = .ok (.iload_n 3, 1) := by decide +kernel
theorem dX2_matchLevels_20 : decode cX2_matchLevels 20 = .ok (.ifCond .le 7, 3) := by decide +kernel
theorem dX2_matchLevels_23 : decode cX2_matchLevels 23 = .ok (.iload_n 2, 1) := by decide +kernel
theorem dX2_matchLevels_24 : decode cX2_matchLevels 24 = .ok (.ifCond .gt 4, 3) := by decide +kernel
theorem dX2_matchLevels_27 : decode cX2_matchLevels 27 = .ok (.return_, 1) := by decide +kernel
theorem dX2_matchLevels_28 : decode cX2_matchLevels 28 = .ok (.iconst 0, 1) := by decide +kernel
theorem dX2_matchLevels_29 : decode cX2_matchLevels 29 = .ok (.istore 4, 2) := by decide +kernel
theorem dX2_matchLevels_31 : decode cX2_matchLevels 31 = .ok (.iload 4, 2) := by decide +kernel
theorem dX2_matchLevels_33 : decode cX2_matchLevels 33 = .ok (.aload_n 0, 1) := by decide +kernel
theorem dX2_matchLevels_34 : decode cX2_matchLevels 34 = .ok (.getfield 9, 3) := by decide +kernel
theorem dX2_matchLevels_37 : decode cX2_matchLevels 37 = .ok (.getfield 32, 3) := by decide +kernel
theorem dX2_matchLevels_40 : decode cX2_matchLevels 40 = .ok (.if_icmp .ge 62, 3) := by decide +kernel
theorem dX2_matchLevels_43 : decode cX2_matchLevels 43 = .ok (.aload_n 0, 1) := by decide +kernel
theorem dX2_matchLevels_44 : decode cX2_matchLevels 44 = .ok (.getfield 26, 3) := by decide +kernel
theorem dX2_matchLevels_47 : decode cX2_matchLevels 47 = .ok (.iload 4, 2) := by decide +kernel
theorem dX2_matchLevels_49 : decode cX2_matchLevels 49 = .ok (.iaload, 1) := by decide +kernel
theorem dX2_matchLevels_50 : decode cX2_matchLevels 50 = .ok (.iconst (-1), 1) := by decide +kernel
theorem dX2_matchLevels_51 : decode cX2_matchLevels 51 = .ok (.if_icmp .eq 45, 3) := by decide +kernel
theorem dX2_matchLevels_54 : decode cX2_matchLevels 54 = .ok (.aload_n 0, 1) := by decide +kernel
theorem dX2_matchLevels_55 : decode cX2_matchLevels 55 = .ok (.aload_n 0, 1) := by decide +kernel
theorem dX2_matchLevels_56 : decode cX2_matchLevels 56 = .ok (.getfield 26, 3) := by decide +kernel
theorem dX2_matchLevels_59 : decode cX2_matchLevels 59 = .ok (.iload 4, 2) := by decide +kernel
theorem dX2_matchLevels_61 : decode cX2_matchLevels 61 = .ok (.iaload, 1) := by decide +kernel
theorem dX2_matchLevels_62 : decode cX2_matchLevels 62 = .ok (.invokevirtual 103, 3) := by decide +kernel
theorem dX2_matchLevels_65 : decode cX2_matchLevels 65 = .ok (.iload_n 2, 1) := by decide +kernel
theorem dX2_matchLevels_66 : decode cX2_matchLevels 66 = .ok (.imul, 1) := by decide +kernel
theorem dX2_matchLevels_67 : decode cX2_matchLevels 67 = .ok (.iload_n 3, 1) := by decide +kernel
theorem dX2_matchLevels_68 : decode cX2_matchLevels 68 = .ok (.idiv, 1) := by decide +kernel
theorem dX2_matchLevels_69 : decode cX2_matchLevels 69 = .ok (.istore 5, 2) := by decide +kernel
theorem dX2_matchLevels_71 : decode cX2_matchLevels 71 = .ok (.iload 5, 2) := by decide +kernel
theorem dX2_matchLevels_73 : decode cX2_matchLevels 73 = .ok (.ifCond .lt 23, 3) := by decide +kernel
theorem dX2_matchLevels_76 : decode cX2_matchLevels 76 = .ok (.iload 5, 2) := by decide +kernel
theorem dX2_matchLevels_78 : decode cX2_matchLevels 78 = .ok (.iload_n 2, 1) := by decide +kernel
theorem dX2_matchLevels_79 : decode cX2_matchLevels 79 = .ok (.if_icmp .ge 17, 3) := by decide +kernel
theorem dX2_matchLevels_82 : decode cX2_matchLevels 82 = .ok (.aload_n 0, 1) := by decide +kernel
theorem dX2_matchLevels_83 : decode cX2_matchLevels 83 = .ok (.getfield 23, 3) := by decide +kernel
theorem dX2_matchLevels_86 : decode cX2_matchLevels 86 = .ok (.iload 4, 2) := by decide +kernel
theorem dX2_matchLevels_88 : decode cX2_matchLevels 88 = .ok (.aload_n 0, 1) := by decide +kernel
theorem dX2_matchLevels_89 : decode cX2_matchLevels 89 = .ok (.getfield 29, 3) := by decide +kernel
theorem dX2_matchLevels_92 : decode cX2_matchLevels 92 = .ok (.iload 5, 2) := by decide +kernel
theorem dX2_matchLevels_94 : decode cX2_matchLevels 94 = .ok (.iaload, 1) := by decide +kernel
theorem dX2_matchLevels_95 : decode cX2_matchLevels 95 = .ok (.iastore, 1) := by decide +kernel
theorem dX2_matchLevels_96 : decode cX2_matchLevels 96 = .ok (.iinc 4 1, 3) := by decide +kernel
theorem dX2_matchLevels_99 : decode cX2_matchLevels 99 = .ok (.goto (-68), 3) := by decide +kernel
theorem dX2_matchLevels_102 : decode cX2_matchLevels 102 = .ok (.return_, 1) := by decide +kernel
set_option maxRecDepth 20000 in
theorem ggX2_sortGreysOf_X1_greyAt : GoodIn wsX2_sortGreysOf wsX1_greyAt := goodIn_r _ [8, 9, 10, 11, 12, 7, 13, 14, 15, 16, 17, 18, 19, 26, 27, 28, 29, 30] (by decide +kernel) (by decide +kernel)
set_option maxRecDepth 20000 in
theorem gX2_sortGreysOf_X1_greyAt : GoodIn wsX2_sortGreysOf (wsV RX2 38 RX1 yX1_greyAt wsX1_greyAt) := goodIn_app (goodIn_of _ (by decide +kernel)) ggX2_sortGreysOf_X1_greyAt
theorem dX2_sortGreysOf_0 : decode cX2_sortGreysOf 0 = .ok (.iconst 0, 1) := by decide +kernel
theorem dX2_sortGreysOf_1 : decode cX2_sortGreysOf 1 = .ok (.istore_n 2, 1) := by decide +kernel
theorem dX2_sortGreysOf_2 : decode cX2_sortGreysOf 2 = .ok (.iconst 0, 1) := by decide +kernel
theorem dX2_sortGreysOf_3 : decode cX2_sortGreysOf 3 = .ok (.istore_n 3, 1) := by decide +kernel
theorem dX2_sortGreysOf_4 : decode cX2_sortGreysOf 4 = .ok (.iload_n 3, 1) := by decide +kernel
theorem dX2_sortGreysOf_5 : decode cX2_sortGreysOf 5 = .ok (.aload_n 0, 1) := by decide +kernel
theorem dX2_sortGreysOf_6 : decode cX2_sortGreysOf 6 = .ok (.getfield 9, 3) := by decide +kernel
theorem dX2_sortGreysOf_9 : decode cX2_sortGreysOf 9 = .ok (.getfield 32, 3) := by decide +kernel
theorem dX2_sortGreysOf_12 : decode cX2_sortGreysOf 12 = .ok (.if_icmp .ge 82, 3) := by decide +kernel
theorem dX2_sortGreysOf_15 : decode cX2_sortGreysOf 15 = .ok (.aload_n 0, 1) := by decide +kernel
theorem dX2_sortGreysOf_16 : decode cX2_sortGreysOf 16 = .ok (.getfield 9, 3) := by decide +kernel
theorem dX2_sortGreysOf_19 : decode cX2_sortGreysOf 19 = .ok (.iload_n 1, 1) := by decide +kernel
theorem dX2_sortGreysOf_20 : decode cX2_sortGreysOf 20 = .ok (.iload_n 3, 1) := by decide +kernel
theorem dX2_sortGreysOf_21 : decode cX2_sortGreysOf 21 = .ok (.invokevirtual 38, 3) := by decide +kernel
theorem dX2_sortGreysOf_24 : decode cX2_sortGreysOf 24 = .ok (.istore 4, 2) := by decide +kernel
theorem dX2_sortGreysOf_26 : decode cX2_sortGreysOf 26 = .ok (.iload 4, 2) := by decide +kernel
theorem dX2_sortGreysOf_28 : decode cX2_sortGreysOf 28 = .ok (.iconst (-1), 1) := by decide +kernel
theorem dX2_sortGreysOf_29 : decode cX2_sortGreysOf 29 = .ok (.if_icmp .eq 59, 3) := by decide +kernel
theorem dX2_sortGreysOf_32 : decode cX2_sortGreysOf 32 = .ok (.iload_n 2, 1) := by decide +kernel
theorem dX2_sortGreysOf_33 : decode cX2_sortGreysOf 33 = .ok (.istore 5, 2) := by decide +kernel
theorem dX2_sortGreysOf_35 : decode cX2_sortGreysOf 35 = .ok (.iload 5, 2) := by decide +kernel
theorem dX2_sortGreysOf_37 : decode cX2_sortGreysOf 37 = .ok (.ifCond .le 39, 3) := by decide +kernel
theorem dX2_sortGreysOf_40 : decode cX2_sortGreysOf 40 = .ok (.aload_n 0, 1) := by decide +kernel
theorem dX2_sortGreysOf_41 : decode cX2_sortGreysOf 41 = .ok (.getfield 29, 3) := by decide +kernel
theorem dX2_sortGreysOf_44 : decode cX2_sortGreysOf 44 = .ok (.iload 5, 2) := by decide +kernel
theorem dX2_sortGreysOf_46 : decode cX2_sortGreysOf 46 = .ok (.iconst 1, 1) := by decide +kernel
theorem dX2_sortGreysOf_47 : decode cX2_sortGreysOf 47 = .ok (.isub, 1) := by decide +kernel
theorem dX2_sortGreysOf_48 : decode cX2_sortGreysOf 48 = .ok (.iaload, 1) := by decide +kernel
theorem dX2_sortGreysOf_49 : decode cX2_sortGreysOf 49 = .ok (.iload 4, 2) := by decide +kernel
theorem dX2_sortGreysOf_51 : decode cX2_sortGreysOf 51 = .ok (.if_icmp .le 25, 3) := by decide +kernel
theorem dX2_sortGreysOf_54 : decode cX2_sortGreysOf 54 = .ok (.aload_n 0, 1) := by decide +kernel
theorem dX2_sortGreysOf_55 : decode cX2_sortGreysOf 55 = .ok (.getfield 29, 3) := by decide +kernel
theorem dX2_sortGreysOf_58 : decode cX2_sortGreysOf 58 = .ok (.iload 5, 2) := by decide +kernel
theorem dX2_sortGreysOf_60 : decode cX2_sortGreysOf 60 = .ok (.aload_n 0, 1) := by decide +kernel
theorem dX2_sortGreysOf_61 : decode cX2_sortGreysOf 61 = .ok (.getfield 29, 3) := by decide +kernel
theorem dX2_sortGreysOf_64 : decode cX2_sortGreysOf 64 = .ok (.iload 5, 2) := by decide +kernel
theorem dX2_sortGreysOf_66 : decode cX2_sortGreysOf 66 = .ok (.iconst 1, 1) := by decide +kernel
theorem dX2_sortGreysOf_67 : decode cX2_sortGreysOf 67 = .ok (.isub, 1) := by decide +kernel
theorem dX2_sortGreysOf_68 : decode cX2_sortGreysOf 68 = .ok (.iaload, 1) := by decide +kernel
theorem dX2_sortGreysOf_69 : decode cX2_sortGreysOf 69 = .ok (.iastore, 1) := by decide +kernel
theorem dX2_sortGreysOf_70 : decode cX2_sortGreysOf 70 = .ok (.iinc 5 (-1), 3) := by decide +kernel
theorem dX2_sortGreysOf_73 : decode cX2_sortGreysOf 73 = .ok (.goto (-38), 3) := by decide +kernel
theorem dX2_sortGreysOf_76 : decode cX2_sortGreysOf 76 = .ok (.aload_n 0, 1) := by decide +kernel
theorem dX2_sortGreysOf_77 : decode cX2_sortGreysOf 77 = .ok (.getfield 29, 3) := by decide +kernel
theorem dX2_sortGreysOf_80 : decode cX2_sortGreysOf 80 = .ok (.iload 5, 2) := by decide +kernel
theorem dX2_sortGreysOf_82 : decode cX2_sortGreysOf 82 = .ok (.iload 4, 2) := by decide +kernel
theorem dX2_sortGreysOf_84 : decode cX2_sortGreysOf 84 = .ok (.iastore, 1) := by decide +kernel
theorem dX2_sortGreysOf_85 : decode cX2_sortGreysOf 85 = .ok (.iinc 2 1, 3) := by decide +kernel
theorem dX2_sortGreysOf_88 : decode cX2_sortGreysOf 88 = .ok (.iinc 3 1, 3) := by decide +kernel
theorem dX2_sortGreysOf_91 : decode cX2_sortGreysOf 91 = .ok (.goto (-87), 3) := by decide +kernel
theorem dX2_sortGreysOf_94 : decode cX2_sortGreysOf 94 = .ok (.iload_n 2, 1) := by decide +kernel
theorem dX2_sortGreysOf_95 : decode cX2_sortGreysOf 95 = .ok (.ireturn, 1) := by decide +kernel
theorem dX2_middleRankOf_0 : decode cX2_middleRankOf 0 = .ok (.iconst 0, 1) := by decide +kernel
theorem dX2_middleRankOf_1 : decode cX2_middleRankOf 1 = .ok (.istore_n 2, 1) := by decide +kernel
theorem dX2_middleRankOf_2 : decode cX2_middleRankOf 2 = .ok (.iconst 0, 1) := by decide +kernel
theorem dX2_middleRankOf_3 : decode cX2_middleRankOf 3 = .ok (.istore_n 3, 1) := by decide +kernel
theorem dX2_middleRankOf_4 : decode cX2_middleRankOf 4 = .ok (.iconst 0, 1) := by decide +kernel
theorem dX2_middleRankOf_5 : decode cX2_middleRankOf 5 = .ok (.istore 4, 2) := by decide +kernel
theorem dX2_middleRankOf_7 : decode cX2_middleRankOf 7 = .ok (.iload 4, 2) := by decide +kernel
theorem dX2_middleRankOf_9 : decode cX2_middleRankOf 9 = .ok (.aload_n 0, 1) := by decide +kernel
theorem dX2_middleRankOf_10 : decode cX2_middleRankOf 10 = .ok (.getfield 9, 3) := by decide +kernel
theorem dX2_middleRankOf_13 : decode cX2_middleRankOf 13 = .ok (.getfield 32, 3) := by decide +kernel
theorem dX2_middleRankOf_16 : decode cX2_middleRankOf 16 = .ok (.if_icmp .ge 51, 3) := by decide +kernel
theorem dX2_middleRankOf_19 : decode cX2_middleRankOf 19 = .ok (.aload_n 0, 1) := by decide +kernel
theorem dX2_middleRankOf_20 : decode cX2_middleRankOf 20 = .ok (.getfield 26, 3) := by decide +kernel
theorem dX2_middleRankOf_23 : decode cX2_middleRankOf 23 = .ok (.iload 4, 2) := by decide +kernel
theorem dX2_middleRankOf_25 : decode cX2_middleRankOf 25 = .ok (.iaload, 1) := by decide +kernel
theorem dX2_middleRankOf_26 : decode cX2_middleRankOf 26 = .ok (.iload_n 1, 1) := by decide +kernel
theorem dX2_middleRankOf_27 : decode cX2_middleRankOf 27 = .ok (.if_icmp .ne 9, 3) := by decide +kernel
theorem dX2_middleRankOf_30 : decode cX2_middleRankOf 30 = .ok (.iinc 3 1, 3) := by decide +kernel
theorem dX2_middleRankOf_33 : decode cX2_middleRankOf 33 = .ok (.goto 28, 3) := by decide +kernel
theorem dX2_middleRankOf_36 : decode cX2_middleRankOf 36 = .ok (.aload_n 0, 1) := by decide +kernel
theorem dX2_middleRankOf_37 : decode cX2_middleRankOf 37 = .ok (.getfield 26, 3) := by decide +kernel
theorem dX2_middleRankOf_40 : decode cX2_middleRankOf 40 = .ok (.iload 4, 2) := by decide +kernel
theorem dX2_middleRankOf_42 : decode cX2_middleRankOf 42 = .ok (.iaload, 1) := by decide +kernel
theorem dX2_middleRankOf_43 : decode cX2_middleRankOf 43 = .ok (.iconst (-1), 1) := by decide +kernel
theorem dX2_middleRankOf_44 : decode cX2_middleRankOf 44 = .ok (.if_icmp .eq 17, 3) := by decide +kernel
theorem dX2_middleRankOf_47 : decode cX2_middleRankOf 47 = .ok (.aload_n 0, 1) := by decide +kernel
theorem dX2_middleRankOf_48 : decode cX2_middleRankOf 48 = .ok (.getfield 26, 3) := by decide +kernel
theorem dX2_middleRankOf_51 : decode cX2_middleRankOf 51 = .ok (.iload 4, 2) := by decide +kernel
theorem dX2_middleRankOf_53 : decode cX2_middleRankOf 53 = .ok (.iaload, 1) := by decide +kernel
theorem dX2_middleRankOf_54 : decode cX2_middleRankOf 54 = .ok (.iload_n 1, 1) := by decide +kernel
theorem dX2_middleRankOf_55 : decode cX2_middleRankOf 55 = .ok (.if_icmp .ge 6, 3) := by decide +kernel
theorem dX2_middleRankOf_58 : decode cX2_middleRankOf 58 = .ok (.iinc 2 1, 3) := by decide +kernel
theorem dX2_middleRankOf_61 : decode cX2_middleRankOf 61 = .ok (.iinc 4 1, 3) := by decide +kernel
theorem dX2_middleRankOf_64 : decode cX2_middleRankOf 64 = .ok (.goto (-57), 3) := by decide +kernel
theorem dX2_middleRankOf_67 : decode cX2_middleRankOf 67 = .ok (.iconst 2, 1) := by decide +kernel
theorem dX2_middleRankOf_68 : decode cX2_middleRankOf 68 = .ok (.iload_n 2, 1) := by decide +kernel
theorem dX2_middleRankOf_69 : decode cX2_middleRankOf 69 = .ok (.imul, 1) := by decide +kernel
theorem dX2_middleRankOf_70 : decode cX2_middleRankOf 70 = .ok (.iload_n 3, 1) := by decide +kernel
theorem dX2_middleRankOf_71 : decode cX2_middleRankOf 71 = .ok (.iadd, 1) := by decide +kernel
theorem dX2_middleRankOf_72 : decode cX2_middleRankOf 72 = .ok (.iconst 1, 1) := by decide +kernel
theorem dX2_middleRankOf_73 : decode cX2_middleRankOf 73 = .ok (.isub, 1) := by decide +kernel
theorem dX2_middleRankOf_74 : decode cX2_middleRankOf 74 = .ok (.iconst 2, 1) := by decide +kernel
theorem dX2_middleRankOf_75 : decode cX2_middleRankOf 75 = .ok (.idiv, 1) := by decide +kernel
theorem dX2_middleRankOf_76 : decode cX2_middleRankOf 76 = .ok (.ireturn, 1) := by decide +kernel
set_option maxRecDepth 20000 in
theorem ggX2_fillLost_X1_greyAt : GoodIn wsX2_fillLost wsX1_greyAt := goodIn_r _ [9, 10, 11, 12, 13, 8, 14, 15, 16, 17, 18, 19, 20, 27, 28, 29, 30, 31] (by decide +kernel) (by decide +kernel)
set_option maxRecDepth 20000 in
theorem gX2_fillLost_X1_greyAt : GoodIn wsX2_fillLost (wsV RX2 38 RX1 yX1_greyAt wsX1_greyAt) := goodIn_app (goodIn_of _ (by decide +kernel)) ggX2_fillLost_X1_greyAt
theorem dX2_fillLost_0 : decode cX2_fillLost 0 = .ok (.iconst 0, 1) := by decide +kernel
theorem dX2_fillLost_1 : decode cX2_fillLost 1 = .ok (.istore_n 2, 1) := by decide +kernel
theorem dX2_fillLost_2 : decode cX2_fillLost 2 = .ok (.iload_n 2, 1) := by decide +kernel
theorem dX2_fillLost_3 : decode cX2_fillLost 3 = .ok (.aload_n 0, 1) := by decide +kernel
theorem dX2_fillLost_4 : decode cX2_fillLost 4 = .ok (.getfield 9, 3) := by decide +kernel
theorem dX2_fillLost_7 : decode cX2_fillLost 7 = .ok (.getfield 32, 3) := by decide +kernel
theorem dX2_fillLost_10 : decode cX2_fillLost 10 = .ok (.if_icmp .ge 57, 3) := by decide +kernel
theorem dX2_fillLost_13 : decode cX2_fillLost 13 = .ok (.aload_n 0, 1) := by decide +kernel
theorem dX2_fillLost_14 : decode cX2_fillLost 14 = .ok (.getfield 26, 3) := by decide +kernel
theorem dX2_fillLost_17 : decode cX2_fillLost 17 = .ok (.iload_n 2, 1) := by decide +kernel
theorem dX2_fillLost_18 : decode cX2_fillLost 18 = .ok (.iaload, 1) := by decide +kernel
theorem dX2_fillLost_19 : decode cX2_fillLost 19 = .ok (.iconst (-1), 1) := by decide +kernel
theorem dX2_fillLost_20 : decode cX2_fillLost 20 = .ok (.if_icmp .ne 41, 3) := by decide +kernel
theorem dX2_fillLost_23 : decode cX2_fillLost 23 = .ok (.aload_n 0, 1) := by decide +kernel
theorem dX2_fillLost_24 : decode cX2_fillLost 24 = .ok (.getfield 9, 3) := by decide +kernel
theorem dX2_fillLost_27 : decode cX2_fillLost 27 = .ok (.iload_n 1, 1) := by decide +kernel
theorem dX2_fillLost_28 : decode cX2_fillLost 28 = .ok (.iconst 1, 1) := by decide +kernel
theorem dX2_fillLost_29 : decode cX2_fillLost 29 = .ok (.isub, 1) := by decide +kernel
theorem dX2_fillLost_30 : decode cX2_fillLost 30 = .ok (.iload_n 2, 1) := by decide +kernel
theorem dX2_fillLost_31 : decode cX2_fillLost 31 = .ok (.invokevirtual 38, 3) := by decide +kernel
theorem dX2_fillLost_34 : decode cX2_fillLost 34 = .ok (.istore_n 3, 1) := by decide +kernel
theorem dX2_fillLost_35 : decode cX2_fillLost 35 = .ok (.aload_n 0, 1) := by decide +kernel
theorem dX2_fillLost_36 : decode cX2_fillLost 36 = .ok (.getfield 23, 3) := by decide +kernel
theorem dX2_fillLost_39 : decode cX2_fillLost 39 = .ok (.iload_n 2, 1) := by decide +kernel
theorem dX2_fillLost_40 : decode cX2_fillLost 40 = .ok (.iload_n 3, 1) := by decide +kernel
theorem dX2_fillLost_41 : decode cX2_fillLost 41 = .ok (.iconst (-1), 1) := by decide +kernel
theorem dX2_fillLost_42 : decode cX2_fillLost 42 = .ok (.if_icmp .eq 7, 3) := by decide +kernel
theorem dX2_fillLost_45 : decode cX2_fillLost 45 = .ok (.iload_n 3, 1) := by decide +kernel
theorem dX2_fillLost_46 : decode cX2_fillLost 46 = .ok (.goto 14, 3) := by decide +kernel
theorem dX2_fillLost_49 : decode cX2_fillLost 49 = .ok (.aload_n 0, 1) := by decide +kernel
theorem dX2_fillLost_50 : decode cX2_fillLost 50 = .ok (.getfield 9, 3) := by decide +kernel
theorem dX2_fillLost_53 : decode cX2_fillLost 53 = .ok (.iload_n 1, 1) := by decide +kernel
theorem dX2_fillLost_54 : decode cX2_fillLost 54 = .ok (.iconst 1, 1) := by decide +kernel
theorem dX2_fillLost_55 : decode cX2_fillLost 55 = .ok (.iadd, 1) := by decide +kernel
theorem dX2_fillLost_56 : decode cX2_fillLost 56 = .ok (.iload_n 2, 1) := by decide +kernel
theorem dX2_fillLost_57 : decode cX2_fillLost 57 = .ok (.invokevirtual 38, 3) := by decide +kernel
theorem dX2_fillLost_60 : decode cX2_fillLost 60 = .ok (.iastore, 1) := by decide +kernel
theorem dX2_fillLost_61 : decode cX2_fillLost 61 = .ok (.iinc 2 1, 3) := by decide +kernel
theorem dX2_fillLost_64 : decode cX2_fillLost 64 = .ok (.goto (-62), 3) := by decide +kernel
theorem dX2_fillLost_67 : decode cX2_fillLost 67 = .ok (.return_, 1) := by decide +kernel
set_option maxRecDepth 20000 in
theorem ggX2_moveAll_X1_placeOf : GoodIn wsX2_moveAll wsX1_placeOf := goodIn_r _ [10, 11, 12, 24, 25, 26, 27, 28] (by decide +kernel) (by decide +kernel)
set_option maxRecDepth 20000 in
theorem gX2_moveAll_X1_placeOf : GoodIn wsX2_moveAll (wsV RX2 112 RX1 yX1_placeOf wsX1_placeOf) := goodIn_app (goodIn_of _ (by decide +kernel)) ggX2_moveAll_X1_placeOf
set_option maxRecDepth 20000 in
theorem ggX2_moveAll_X1_hasPlace : GoodIn wsX2_moveAll wsX1_hasPlace := goodIn_r _ [16, 17, 24, 25, 26, 27, 28] (by decide +kernel) (by decide +kernel)
set_option maxRecDepth 20000 in
theorem gX2_moveAll_X1_hasPlace : GoodIn wsX2_moveAll (wsV RX2 115 RX1 yX1_hasPlace wsX1_hasPlace) := goodIn_app (goodIn_of _ (by decide +kernel)) ggX2_moveAll_X1_hasPlace
theorem dX2_moveAll_0 : decode cX2_moveAll 0 = .ok (.iconst 0, 1) := by decide +kernel
theorem dX2_moveAll_1 : decode cX2_moveAll 1 = .ok (.istore_n 3, 1) := by decide +kernel
theorem dX2_moveAll_2 : decode cX2_moveAll 2 = .ok (.iload_n 3, 1) := by decide +kernel
theorem dX2_moveAll_3 : decode cX2_moveAll 3 = .ok (.aload_n 0, 1) := by decide +kernel
theorem dX2_moveAll_4 : decode cX2_moveAll 4 = .ok (.getfield 9, 3) := by decide +kernel
theorem dX2_moveAll_7 : decode cX2_moveAll 7 = .ok (.getfield 106, 3) := by decide +kernel
theorem dX2_moveAll_10 : decode cX2_moveAll 10 = .ok (.if_icmp .ge 84, 3) := by decide +kernel
theorem dX2_moveAll_13 : decode cX2_moveAll 13 = .ok (.iconst 0, 1) := by decide +kernel
theorem dX2_moveAll_14 : decode cX2_moveAll 14 = .ok (.istore 4, 2) := by decide +kernel
theorem dX2_moveAll_16 : decode cX2_moveAll 16 = .ok (.iload 4, 2) := by decide +kernel
theorem dX2_moveAll_18 : decode cX2_moveAll 18 = .ok (.aload_n 0, 1) := by decide +kernel
theorem dX2_moveAll_19 : decode cX2_moveAll 19 = .ok (.getfield 9, 3) := by decide +kernel
theorem dX2_moveAll_22 : decode cX2_moveAll 22 = .ok (.getfield 109, 3) := by decide +kernel
theorem dX2_moveAll_25 : decode cX2_moveAll 25 = .ok (.if_icmp .ge 63, 3) := by decide +kernel
theorem dX2_moveAll_28 : decode cX2_moveAll 28 = .ok (.aload_n 0, 1) := by decide +kernel
theorem dX2_moveAll_29 : decode cX2_moveAll 29 = .ok (.getfield 9, 3) := by decide +kernel
theorem dX2_moveAll_32 : decode cX2_moveAll 32 = .ok (.iload_n 3, 1) := by decide +kernel
theorem dX2_moveAll_33 : decode cX2_moveAll 33 = .ok (.iload_n 2, 1) := by decide +kernel
theorem dX2_moveAll_34 : decode cX2_moveAll 34 = .ok (.isub, 1) := by decide +kernel
theorem dX2_moveAll_35 : decode cX2_moveAll 35 = .ok (.iload 4, 2) := by decide +kernel
theorem dX2_moveAll_37 : decode cX2_moveAll 37 = .ok (.iload_n 1, 1) := by decide +kernel
theorem dX2_moveAll_38 : decode cX2_moveAll 38 = .ok (.isub, 1) := by decide +kernel
theorem dX2_moveAll_39 : decode cX2_moveAll 39 = .ok (.invokevirtual 112, 3) := by decide +kernel
theorem dX2_moveAll_42 : decode cX2_moveAll 42 = .ok (.istore 5, 2) := by decide +kernel
theorem dX2_moveAll_44 : decode cX2_moveAll 44 = .ok (.aload_n 0, 1) := by decide +kernel
theorem dX2_moveAll_45 : decode cX2_moveAll 45 = .ok (.getfield 23, 3) := by decide +kernel
theorem dX2_moveAll_48 : decode cX2_moveAll 48 = .ok (.aload_n 0, 1) := by decide +kernel
theorem dX2_moveAll_49 : decode cX2_moveAll 49 = .ok (.getfield 9, 3) := by decide +kernel
theorem dX2_moveAll_52 : decode cX2_moveAll 52 = .ok (.iload_n 3, 1) := by decide +kernel
theorem dX2_moveAll_53 : decode cX2_moveAll 53 = .ok (.iload 4, 2) := by decide +kernel
theorem dX2_moveAll_55 : decode cX2_moveAll 55 = .ok (.invokevirtual 112, 3) := by decide +kernel
theorem dX2_moveAll_58 : decode cX2_moveAll 58 = .ok (.aload_n 0, 1) := by decide +kernel
theorem dX2_moveAll_59 : decode cX2_moveAll 59 = .ok (.getfield 9, 3) := by decide +kernel
theorem dX2_moveAll_62 : decode cX2_moveAll 62 = .ok (.iload 5, 2) := by decide +kernel
theorem dX2_moveAll_64 : decode cX2_moveAll 64 = .ok (.invokevirtual 115, 3) := by decide +kernel
theorem dX2_moveAll_67 : decode cX2_moveAll 67 = .ok (.ifCond .eq 13, 3) := by decide +kernel
theorem dX2_moveAll_70 : decode cX2_moveAll 70 = .ok (.aload_n 0, 1) := by decide +kernel
theorem dX2_moveAll_71 : decode cX2_moveAll 71 = .ok (.getfield 26, 3) := by decide +kernel
theorem dX2_moveAll_74 : decode cX2_moveAll 74 = .ok (.iload 5, 2) := by decide +kernel
theorem dX2_moveAll_76 : decode cX2_moveAll 76 = .ok (.iaload, 1) := by decide +kernel
theorem dX2_moveAll_77 : decode cX2_moveAll 77 = .ok (.goto 4, 3) := by decide +kernel
theorem dX2_moveAll_80 : decode cX2_moveAll 80 = .ok (.iconst (-1), 1) := by decide +kernel
theorem dX2_moveAll_81 : decode cX2_moveAll 81 = .ok (.iastore, 1) := by decide +kernel
theorem dX2_moveAll_82 : decode cX2_moveAll 82 = .ok (.iinc 4 1, 3) := by decide +kernel
theorem dX2_moveAll_85 : decode cX2_moveAll 85 = .ok (.goto (-69), 3) := by decide +kernel
theorem dX2_moveAll_88 : decode cX2_moveAll 88 = .ok (.iinc 3 1, 3) := by decide +kernel
theorem dX2_moveAll_91 : decode cX2_moveAll 91 = .ok (.goto (-89), 3) := by decide +kernel
theorem dX2_moveAll_94 : decode cX2_moveAll 94 = .ok (.return_, 1) := by decide +kernel
set_option maxRecDepth 20000 in
theorem ggX2_greyAt_X1_hasPlace : GoodIn wsX2_greyAt wsX1_hasPlace := goodIn_r _ [7, 8, 15, 16, 17, 18, 19] (by decide +kernel) (by decide +kernel)
set_option maxRecDepth 20000 in
theorem gX2_greyAt_X1_hasPlace : GoodIn wsX2_greyAt (wsV RX2 115 RX1 yX1_hasPlace wsX1_hasPlace) := goodIn_app (goodIn_of _ (by decide +kernel)) ggX2_greyAt_X1_hasPlace
theorem dX2_greyAt_0 : decode cX2_greyAt 0 = .ok (.aload_n 0, 1) := by decide +kernel
theorem dX2_greyAt_1 : decode cX2_greyAt 1 = .ok (.getfield 9, 3) := by decide +kernel
theorem dX2_greyAt_4 : decode cX2_greyAt 4 = .ok (.iload_n 1, 1) := by decide +kernel
theorem dX2_greyAt_5 : decode cX2_greyAt 5 = .ok (.invokevirtual 115, 3) := by decide +kernel
theorem dX2_greyAt_8 : decode cX2_greyAt 8 = .ok (.ifCond .eq 12, 3) := by decide +kernel
theorem dX2_greyAt_11 : decode cX2_greyAt 11 = .ok (.aload_n 0, 1) := by decide +kernel
theorem dX2_greyAt_12 : decode cX2_greyAt 12 = .ok (.getfield 23, 3) := by decide +kernel
theorem dX2_greyAt_15 : decode cX2_greyAt 15 = .ok (.iload_n 1, 1) := by decide +kernel
theorem dX2_greyAt_16 : decode cX2_greyAt 16 = .ok (.iaload, 1) := by decide +kernel
theorem dX2_greyAt_17 : decode cX2_greyAt 17 = .ok (.goto 4, 3) := by decide +kernel
theorem dX2_greyAt_20 : decode cX2_greyAt 20 = .ok (.iconst (-1), 1) := by decide +kernel
theorem dX2_greyAt_21 : decode cX2_greyAt 21 = .ok (.ireturn, 1) := by decide +kernel
theorem dX2_countChanged_0 : decode cX2_countChanged 0 = .ok (.iconst 0, 1) := by decide +kernel
theorem dX2_countChanged_1 : decode cX2_countChanged 1 = .ok (.istore_n 1, 1) := by decide +kernel
theorem dX2_countChanged_2 : decode cX2_countChanged 2 = .ok (.iconst 0, 1) := by decide +kernel
theorem dX2_countChanged_3 : decode cX2_countChanged 3 = .ok (.istore_n 2, 1) := by decide +kernel
theorem dX2_countChanged_4 : decode cX2_countChanged 4 = .ok (.iload_n 2, 1) := by decide +kernel
theorem dX2_countChanged_5 : decode cX2_countChanged 5 = .ok (.aload_n 0, 1) := by decide +kernel
theorem dX2_countChanged_6 : decode cX2_countChanged 6 = .ok (.getfield 9, 3) := by decide +kernel
theorem dX2_countChanged_9 : decode cX2_countChanged 9 = .ok (.getfield 32, 3) := by decide +kernel
theorem dX2_countChanged_12 : decode cX2_countChanged 12 = .ok (.if_icmp .ge 27, 3) := by decide +kernel
theorem dX2_countChanged_15 : decode cX2_countChanged 15 = .ok (.aload_n 0, 1) := by decide +kernel
theorem dX2_countChanged_16 : decode cX2_countChanged 16 = .ok (.getfield 23, 3) := by decide +kernel
theorem dX2_countChanged_19 : decode cX2_countChanged 19 = .ok (.iload_n 2, 1) := by decide +kernel
theorem dX2_countChanged_20 : decode cX2_countChanged 20 = .ok (.iaload, 1) := by decide +kernel
theorem dX2_countChanged_21 : decode cX2_countChanged 21 = .ok (.aload_n 0, 1) := by decide +kernel
theorem dX2_countChanged_22 : decode cX2_countChanged 22 = .ok (.getfield 26, 3) := by decide +kernel
theorem dX2_countChanged_25 : decode cX2_countChanged 25 = .ok (.iload_n 2, 1) := by decide +kernel
theorem dX2_countChanged_26 : decode cX2_countChanged 26 = .ok (.iaload, 1) := by decide +kernel
theorem dX2_countChanged_27 : decode cX2_countChanged 27 = .ok (.if_icmp .eq 6, 3) := by decide +kernel
theorem dX2_countChanged_30 : decode cX2_countChanged 30 = .ok (.iinc 1 1, 3) := by decide +kernel
theorem dX2_countChanged_33 : decode cX2_countChanged 33 = .ok (.iinc 2 1, 3) := by decide +kernel
theorem dX2_countChanged_36 : decode cX2_countChanged 36 = .ok (.goto (-32), 3) := by decide +kernel
theorem dX2_countChanged_39 : decode cX2_countChanged 39 = .ok (.iload_n 1, 1) := by decide +kernel
theorem dX2_countChanged_40 : decode cX2_countChanged 40 = .ok (.ireturn, 1) := by decide +kernel
set_option maxRecDepth 20000 in
theorem ggX2_countUnlikeRaw_X1_greyAt : GoodIn wsX2_countUnlikeRaw wsX1_greyAt := goodIn_r _ [8, 9, 10, 11, 12, 7, 13, 14, 15, 16, 17, 18, 19, 26, 27, 28, 29, 30] (by decide +kernel) (by decide +kernel)
set_option maxRecDepth 20000 in
theorem gX2_countUnlikeRaw_X1_greyAt : GoodIn wsX2_countUnlikeRaw (wsV RX2 38 RX1 yX1_greyAt wsX1_greyAt) := goodIn_app (goodIn_of _ (by decide +kernel)) ggX2_countUnlikeRaw_X1_greyAt
theorem dX2_countUnlikeRaw_0 : decode cX2_countUnlikeRaw 0 = .ok (.iconst 0, 1) := by decide +kernel
theorem dX2_countUnlikeRaw_1 : decode cX2_countUnlikeRaw 1 = .ok (.istore_n 2, 1) := by decide +kernel
theorem dX2_countUnlikeRaw_2 : decode cX2_countUnlikeRaw 2 = .ok (.iconst 0, 1) := by decide +kernel
theorem dX2_countUnlikeRaw_3 : decode cX2_countUnlikeRaw 3 = .ok (.istore_n 3, 1) := by decide +kernel
theorem dX2_countUnlikeRaw_4 : decode cX2_countUnlikeRaw 4 = .ok (.iload_n 3, 1) := by decide +kernel
theorem dX2_countUnlikeRaw_5 : decode cX2_countUnlikeRaw 5 = .ok (.aload_n 0, 1) := by decide +kernel
theorem dX2_countUnlikeRaw_6 : decode cX2_countUnlikeRaw 6 = .ok (.getfield 9, 3) := by decide +kernel
theorem dX2_countUnlikeRaw_9 : decode cX2_countUnlikeRaw 9 = .ok (.getfield 32, 3) := by decide +kernel
theorem dX2_countUnlikeRaw_12 : decode cX2_countUnlikeRaw 12 = .ok (.if_icmp .ge 30, 3) := by decide +kernel
theorem dX2_countUnlikeRaw_15 : decode cX2_countUnlikeRaw 15 = .ok (.aload_n 0, 1) := by decide +kernel
theorem dX2_countUnlikeRaw_16 : decode cX2_countUnlikeRaw 16 = .ok (.getfield 23, 3) := by decide +kernel
theorem dX2_countUnlikeRaw_19 : decode cX2_countUnlikeRaw 19 = .ok (.iload_n 3, 1) := by decide +kernel
theorem dX2_countUnlikeRaw_20 : decode cX2_countUnlikeRaw 20 = .ok (.iaload, 1) := by decide +kernel
theorem dX2_countUnlikeRaw_21 : decode cX2_countUnlikeRaw 21 = .ok (.aload_n 0, 1) := by decide +kernel
theorem dX2_countUnlikeRaw_22 : decode cX2_countUnlikeRaw 22 = .ok (.getfield 9, 3) := by decide +kernel
theorem dX2_countUnlikeRaw_25 : decode cX2_countUnlikeRaw 25 = .ok (.iload_n 1, 1) := by decide +kernel
theorem dX2_countUnlikeRaw_26 : decode cX2_countUnlikeRaw 26 = .ok (.iload_n 3, 1) := by decide +kernel
theorem dX2_countUnlikeRaw_27 : decode cX2_countUnlikeRaw 27 = .ok (.invokevirtual 38, 3) := by decide +kernel
theorem dX2_countUnlikeRaw_30 : decode cX2_countUnlikeRaw 30 = .ok (.if_icmp .eq 6, 3) := by decide +kernel
theorem dX2_countUnlikeRaw_33 : decode cX2_countUnlikeRaw 33 = .ok (.iinc 2 1, 3) := by decide +kernel
theorem dX2_countUnlikeRaw_36 : decode cX2_countUnlikeRaw 36 = .ok (.iinc 3 1, 3) := by decide +kernel
theorem dX2_countUnlikeRaw_39 : decode cX2_countUnlikeRaw 39 = .ok (.goto (-35), 3) := by decide +kernel
theorem dX2_countUnlikeRaw_42 : decode cX2_countUnlikeRaw 42 = .ok (.iload_n 2, 1) := by decide +kernel
theorem dX2_countUnlikeRaw_43 : decode cX2_countUnlikeRaw 43 = .ok (.ireturn, 1) := by decide +kernel
theorem dX2_countLost_0 : decode cX2_countLost 0 = .ok (.iconst 0, 1) := by decide +kernel
theorem dX2_countLost_1 : decode cX2_countLost 1 = .ok (.istore_n 1, 1) := by decide +kernel
theorem dX2_countLost_2 : decode cX2_countLost 2 = .ok (.iconst 0, 1) := by decide +kernel
theorem dX2_countLost_3 : decode cX2_countLost 3 = .ok (.istore_n 2, 1) := by decide +kernel
theorem dX2_countLost_4 : decode cX2_countLost 4 = .ok (.iload_n 2, 1) := by decide +kernel
theorem dX2_countLost_5 : decode cX2_countLost 5 = .ok (.aload_n 0, 1) := by decide +kernel
theorem dX2_countLost_6 : decode cX2_countLost 6 = .ok (.getfield 9, 3) := by decide +kernel
theorem dX2_countLost_9 : decode cX2_countLost 9 = .ok (.getfield 32, 3) := by decide +kernel
theorem dX2_countLost_12 : decode cX2_countLost 12 = .ok (.if_icmp .ge 22, 3) := by decide +kernel
theorem dX2_countLost_15 : decode cX2_countLost 15 = .ok (.aload_n 0, 1) := by decide +kernel
theorem dX2_countLost_16 : decode cX2_countLost 16 = .ok (.getfield 23, 3) := by decide +kernel
theorem dX2_countLost_19 : decode cX2_countLost 19 = .ok (.iload_n 2, 1) := by decide +kernel
theorem dX2_countLost_20 : decode cX2_countLost 20 = .ok (.iaload, 1) := by decide +kernel
theorem dX2_countLost_21 : decode cX2_countLost 21 = .ok (.iconst (-1), 1) := by decide +kernel
theorem dX2_countLost_22 : decode cX2_countLost 22 = .ok (.if_icmp .ne 6, 3) := by decide +kernel
theorem dX2_countLost_25 : decode cX2_countLost 25 = .ok (.iinc 1 1, 3) := by decide +kernel
theorem dX2_countLost_28 : decode cX2_countLost 28 = .ok (.iinc 2 1, 3) := by decide +kernel
theorem dX2_countLost_31 : decode cX2_countLost 31 = .ok (.goto (-27), 3) := by decide +kernel
theorem dX2_countLost_34 : decode cX2_countLost 34 = .ok (.iload_n 1, 1) := by decide +kernel
theorem dX2_countLost_35 : decode cX2_countLost 35 = .ok (.ireturn, 1) := by decide +kernel
theorem dX2_sumOfGreys_0 : decode cX2_sumOfGreys 0 = .ok (.iconst 0, 1) := by decide +kernel
theorem dX2_sumOfGreys_1 : decode cX2_sumOfGreys 1 = .ok (.istore_n 1, 1) := by decide +kernel
theorem dX2_sumOfGreys_2 : decode cX2_sumOfGreys 2 = .ok (.iconst 0, 1) := by decide +kernel
theorem dX2_sumOfGreys_3 : decode cX2_sumOfGreys 3 = .ok (.istore_n 2, 1) := by decide +kernel
theorem dX2_sumOfGreys_4 : decode cX2_sumOfGreys 4 = .ok (.iload_n 2, 1) := by decide +kernel
theorem dX2_sumOfGreys_5 : decode cX2_sumOfGreys 5 = .ok (.aload_n 0, 1) := by decide +kernel
theorem dX2_sumOfGreys_6 : decode cX2_sumOfGreys 6 = .ok (.getfield 9, 3) := by decide +kernel
theorem dX2_sumOfGreys_9 : decode cX2_sumOfGreys 9 = .ok (.getfield 32, 3) := by decide +kernel
theorem dX2_sumOfGreys_12 : decode cX2_sumOfGreys 12 = .ok (.if_icmp .ge 28, 3) := by decide +kernel
theorem dX2_sumOfGreys_15 : decode cX2_sumOfGreys 15 = .ok (.aload_n 0, 1) := by decide +kernel
theorem dX2_sumOfGreys_16 : decode cX2_sumOfGreys 16 = .ok (.getfield 23, 3) := by decide +kernel
theorem dX2_sumOfGreys_19 : decode cX2_sumOfGreys 19 = .ok (.iload_n 2, 1) := by decide +kernel
theorem dX2_sumOfGreys_20 : decode cX2_sumOfGreys 20 = .ok (.iaload, 1) := by decide +kernel
theorem dX2_sumOfGreys_21 : decode cX2_sumOfGreys 21 = .ok (.iconst (-1), 1) := by decide +kernel
theorem dX2_sumOfGreys_22 : decode cX2_sumOfGreys 22 = .ok (.if_icmp .eq 12, 3) := by decide +kernel
theorem dX2_sumOfGreys_25 : decode cX2_sumOfGreys 25 = .ok (.iload_n 1, 1) := by decide +kernel
theorem dX2_sumOfGreys_26 : decode cX2_sumOfGreys 26 = .ok (.aload_n 0, 1) := by decide +kernel
theorem dX2_sumOfGreys_27 : decode cX2_sumOfGreys 27 = .ok (.getfield 23, 3) := by decide +kernel
theorem dX2_sumOfGreys_30 : decode cX2_sumOfGreys 30 = .ok (.iload_n 2, 1) := by decide +kernel
theorem dX2_sumOfGreys_31 : decode cX2_sumOfGreys 31 = .ok (.iaload, 1) := by decide +kernel
theorem dX2_sumOfGreys_32 : decode cX2_sumOfGreys 32 = .ok (.iadd, 1) := by decide +kernel
theorem dX2_sumOfGreys_33 : decode cX2_sumOfGreys 33 = .ok (.istore_n 1, 1) := by decide +kernel
theorem dX2_sumOfGreys_34 : decode cX2_sumOfGreys 34 = .ok (.iinc 2 1, 3) := by decide +kernel
theorem dX2_sumOfGreys_37 : decode cX2_sumOfGreys 37 = .ok (.goto (-33), 3) := by decide +kernel
theorem dX2_sumOfGreys_40 : decode cX2_sumOfGreys 40 = .ok (.iload_n 1, 1) := by decide +kernel
theorem dX2_sumOfGreys_41 : decode cX2_sumOfGreys 41 = .ok (.ireturn, 1) := by decide +kernel
theorem dX2_leastGrey_0 : decode cX2_leastGrey 0 = .ok (.bipush 63, 2) := by decide +kernel
theorem dX2_leastGrey_2 : decode cX2_leastGrey 2 = .ok (.istore_n 1, 1) := by decide +kernel
theorem dX2_leastGrey_3 : decode cX2_leastGrey 3 = .ok (.iconst 0, 1) := by decide +kernel
theorem dX2_leastGrey_4 : decode cX2_leastGrey 4 = .ok (.istore_n 2, 1) := by decide +kernel
theorem dX2_leastGrey_5 : decode cX2_leastGrey 5 = .ok (.iload_n 2, 1) := by decide +kernel
theorem dX2_leastGrey_6 : decode cX2_leastGrey 6 = .ok (.aload_n 0, 1) := by decide +kernel
theorem dX2_leastGrey_7 : decode cX2_leastGrey 7 = .ok (.getfield 9, 3) := by decide +kernel
theorem dX2_leastGrey_10 : decode cX2_leastGrey 10 = .ok (.getfield 32, 3) := by decide +kernel
theorem dX2_leastGrey_13 : decode cX2_leastGrey 13 = .ok (.if_icmp .ge 30, 3) := by decide +kernel
theorem dX2_leastGrey_16 : decode cX2_leastGrey 16 = .ok (.aload_n 0, 1) := by decide +kernel
theorem dX2_leastGrey_17 : decode cX2_leastGrey 17 = .ok (.getfield 23, 3) := by decide +kernel
theorem dX2_leastGrey_20 : decode cX2_leastGrey 20 = .ok (.iload_n 2, 1) := by decide +kernel
theorem dX2_leastGrey_21 : decode cX2_leastGrey 21 = .ok (.iaload, 1) := by decide +kernel
theorem dX2_leastGrey_22 : decode cX2_leastGrey 22 = .ok (.iconst (-1), 1) := by decide +kernel
theorem dX2_leastGrey_23 : decode cX2_leastGrey 23 = .ok (.if_icmp .eq 14, 3) := by decide +kernel
theorem dX2_leastGrey_26 : decode cX2_leastGrey 26 = .ok (.iload_n 1, 1) := by decide +kernel
theorem dX2_leastGrey_27 : decode cX2_leastGrey 27 = .ok (.aload_n 0, 1) := by decide +kernel
theorem dX2_leastGrey_28 : decode cX2_leastGrey 28 = .ok (.getfield 23, 3) := by decide +kernel
theorem dX2_leastGrey_31 : decode cX2_leastGrey 31 = .ok (.iload_n 2, 1) := by decide +kernel
theorem dX2_leastGrey_32 : decode cX2_leastGrey 32 = .ok (.iaload, 1) := by decide +kernel
theorem dX2_leastGrey_33 : decode cX2_leastGrey 33 = .ok (.invokestatic 119, 3) := by decide +kernel
theorem dX2_leastGrey_36 : decode cX2_leastGrey 36 = .ok (.istore_n 1, 1) := by decide +kernel
theorem dX2_leastGrey_37 : decode cX2_leastGrey 37 = .ok (.iinc 2 1, 3) := by decide +kernel
theorem dX2_leastGrey_40 : decode cX2_leastGrey 40 = .ok (.goto (-35), 3) := by decide +kernel
theorem dX2_leastGrey_43 : decode cX2_leastGrey 43 = .ok (.iload_n 1, 1) := by decide +kernel
theorem dX2_leastGrey_44 : decode cX2_leastGrey 44 = .ok (.ireturn, 1) := by decide +kernel
theorem dX2_greatestGrey_0 : decode cX2_greatestGrey 0 = .ok (.iconst 0, 1) := by decide +kernel
theorem dX2_greatestGrey_1 : decode cX2_greatestGrey 1 = .ok (.istore_n 1, 1) := by decide +kernel
theorem dX2_greatestGrey_2 : decode cX2_greatestGrey 2 = .ok (.iconst 0, 1) := by decide +kernel
theorem dX2_greatestGrey_3 : decode cX2_greatestGrey 3 = .ok (.istore_n 2, 1) := by decide +kernel
theorem dX2_greatestGrey_4 : decode cX2_greatestGrey 4 = .ok (.iload_n 2, 1) := by decide +kernel
theorem dX2_greatestGrey_5 : decode cX2_greatestGrey 5 = .ok (.aload_n 0, 1) := by decide +kernel
theorem dX2_greatestGrey_6 : decode cX2_greatestGrey 6 = .ok (.getfield 9, 3) := by decide +kernel
theorem dX2_greatestGrey_9 : decode cX2_greatestGrey 9 = .ok (.getfield 32, 3) := by decide +kernel
theorem dX2_greatestGrey_12 : decode cX2_greatestGrey 12 = .ok (.if_icmp .ge 20, 3) := by decide +kernel
theorem dX2_greatestGrey_15 : decode cX2_greatestGrey 15 = .ok (.iload_n 1, 1) := by decide +kernel
theorem dX2_greatestGrey_16 : decode cX2_greatestGrey 16 = .ok (.aload_n 0, 1) := by decide +kernel
theorem dX2_greatestGrey_17 : decode cX2_greatestGrey 17 = .ok (.getfield 23, 3) := by decide +kernel
theorem dX2_greatestGrey_20 : decode cX2_greatestGrey 20 = .ok (.iload_n 2, 1) := by decide +kernel
theorem dX2_greatestGrey_21 : decode cX2_greatestGrey 21 = .ok (.iaload, 1) := by decide +kernel
theorem dX2_greatestGrey_22 : decode cX2_greatestGrey 22 = .ok (.invokestatic 122, 3) := by decide +kernel
theorem dX2_greatestGrey_25 : decode cX2_greatestGrey 25 = .ok (.istore_n 1, 1) := by decide +kernel
theorem dX2_greatestGrey_26 : decode cX2_greatestGrey 26 = .ok (.iinc 2 1, 3) := by decide +kernel
theorem dX2_greatestGrey_29 : decode cX2_greatestGrey 29 = .ok (.goto (-25), 3) := by decide +kernel
theorem dX2_greatestGrey_32 : decode cX2_greatestGrey 32 = .ok (.iload_n 1, 1) := by decide +kernel
theorem dX2_greatestGrey_33 : decode cX2_greatestGrey 33 = .ok (.ireturn, 1) := by decide +kernel

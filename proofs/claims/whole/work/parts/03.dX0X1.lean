theorem dX0_init_0 : decode cX0_init 0 = .ok (.aload_n 0, 1) := by decide +kernel
theorem dX0_init_1 : decode cX0_init 1 = .ok (.invokespecial 3, 3) := by decide +kernel
theorem dX0_init_4 : decode cX0_init 4 = .ok (.aload_n 0, 1) := by decide +kernel
theorem dX0_init_5 : decode cX0_init 5 = .ok (.iconst 0, 1) := by decide +kernel
theorem dX0_init_6 : decode cX0_init 6 = .ok (.putfield 9, 3) := by decide +kernel
theorem dX0_init_9 : decode cX0_init 9 = .ok (.aload_n 0, 1) := by decide +kernel
theorem dX0_init_10 : decode cX0_init 10 = .ok (.bipush 12, 2) := by decide +kernel
theorem dX0_init_12 : decode cX0_init 12 = .ok (.newarray .int, 2) := by decide +kernel
theorem dX0_init_14 : decode cX0_init 14 = .ok (.putfield 15, 3) := by decide +kernel
theorem dX0_init_17 : decode cX0_init 17 = .ok (.aload_n 0, 1) := by decide +kernel
theorem dX0_init_18 : decode cX0_init 18 = .ok (.bipush 12, 2) := by decide +kernel
theorem dX0_init_20 : decode cX0_init 20 = .ok (.newarray .int, 2) := by decide +kernel
theorem dX0_init_22 : decode cX0_init 22 = .ok (.putfield 19, 3) := by decide +kernel
theorem dX0_init_25 : decode cX0_init 25 = .ok (.aload_n 0, 1) := by decide +kernel
theorem dX0_init_26 : decode cX0_init 26 = .ok (.bipush 12, 2) := by decide +kernel
theorem dX0_init_28 : decode cX0_init 28 = .ok (.newarray .int, 2) := by decide +kernel
theorem dX0_init_30 : decode cX0_init 30 = .ok (.putfield 22, 3) := by decide +kernel
theorem dX0_init_33 : decode cX0_init 33 = .ok (.aload_n 0, 1) := by decide +kernel
theorem dX0_init_34 : decode cX0_init 34 = .ok (.bipush 12, 2) := by decide +kernel
theorem dX0_init_36 : decode cX0_init 36 = .ok (.newarray .int, 2) := by decide +kernel
theorem dX0_init_38 : decode cX0_init 38 = .ok (.putfield 25, 3) := by decide +kernel
theorem dX0_init_41 : decode cX0_init 41 = .ok (.aload_n 0, 1) := by decide +kernel
theorem dX0_init_42 : decode cX0_init 42 = .ok (.bipush 12, 2) := by decide +kernel
theorem dX0_init_44 : decode cX0_init 44 = .ok (.newarray .boolean, 2) := by decide +kernel
theorem dX0_init_46 : decode cX0_init 46 = .ok (.putfield 28, 3) := by decide +kernel
theorem dX0_init_49 : decode cX0_init 49 = .ok (.return_, 1) := by decide +kernel
theorem dX0_has_0 : decode cX0_has 0 = .ok (.iload_n 1, 1) := by decide +kernel
theorem dX0_has_1 : decode cX0_has 1 = .ok (.ifCond .lt 15, 3) := by decide +kernel
theorem dX0_has_4 : decode cX0_has 4 = .ok (.iload_n 1, 1) := by decide +kernel
theorem dX0_has_5 : decode cX0_has 5 = .ok (.aload_n 0, 1) := by decide +kernel
theorem dX0_has_6 : decode cX0_has 6 = .ok (.getfield 9, 3) := by decide +kernel
theorem dX0_has_9 : decode cX0_has 9 = .ok (.if_icmp .ge 7, 3) := by decide +kernel
theorem dX0_has_12 : decode cX0_has 12 = .ok (.iconst 1, 1) := by decide +kernel
theorem dX0_has_13 : decode cX0_has 13 = .ok (.goto 4, 3) := by decide +kernel
theorem dX0_has_16 : decode cX0_has 16 = .ok (.iconst 0, 1) := by decide +kernel
theorem dX0_has_17 : decode cX0_has 17 = .ok (.ireturn, 1) := by decide +kernel
theorem dX0_add_0 : decode cX0_add 0 = .ok (.aload_n 0, 1) := by decide +kernel
theorem dX0_add_1 : decode cX0_add 1 = .ok (.getfield 9, 3) := by decide +kernel
theorem dX0_add_4 : decode cX0_add 4 = .ok (.istore 5, 2) := by decide +kernel
theorem dX0_add_6 : decode cX0_add 6 = .ok (.aload_n 0, 1) := by decide +kernel
theorem dX0_add_7 : decode cX0_add 7 = .ok (.dup, 1) := by decide +kernel
theorem dX0_add_8 : decode cX0_add 8 = .ok (.getfield 9, 3) := by decide +kernel
theorem dX0_add_11 : decode cX0_add 11 = .ok (.iconst 1, 1) := by decide +kernel
theorem dX0_add_12 : decode cX0_add 12 = .ok (.iadd, 1) := by decide +kernel
theorem dX0_add_13 : decode cX0_add 13 = .ok (.putfield 9, 3) := by decide +kernel
theorem dX0_add_16 : decode cX0_add 16 = .ok (.aload_n 0, 1) := by decide +kernel
theorem dX0_add_17 : decode cX0_add 17 = .ok (.getfield 15, 3) := by decide +kernel
theorem dX0_add_20 : decode cX0_add 20 = .ok (.iload 5, 2) := by decide +kernel
theorem dX0_add_22 : decode cX0_add 22 = .ok (.iload_n 1, 1) := by decide +kernel
theorem dX0_add_23 : decode cX0_add 23 = .ok (.iastore, 1) := by decide +kernel
theorem dX0_add_24 : decode cX0_add 24 = .ok (.aload_n 0, 1) := by decide +kernel
theorem dX0_add_25 : decode cX0_add 25 = .ok (.getfield 19, 3) := by decide +kernel
theorem dX0_add_28 : decode cX0_add 28 = .ok (.iload 5, 2) := by decide +kernel
theorem dX0_add_30 : decode cX0_add 30 = .ok (.iload_n 2, 1) := by decide +kernel
theorem dX0_add_31 : decode cX0_add 31 = .ok (.iastore, 1) := by decide +kernel
theorem dX0_add_32 : decode cX0_add 32 = .ok (.aload_n 0, 1) := by decide +kernel
theorem dX0_add_33 : decode cX0_add 33 = .ok (.getfield 22, 3) := by decide +kernel
theorem dX0_add_36 : decode cX0_add 36 = .ok (.iload 5, 2) := by decide +kernel
theorem dX0_add_38 : decode cX0_add 38 = .ok (.iload_n 3, 1) := by decide +kernel
theorem dX0_add_39 : decode cX0_add 39 = .ok (.iastore, 1) := by decide +kernel
theorem dX0_add_40 : decode cX0_add 40 = .ok (.aload_n 0, 1) := by decide +kernel
theorem dX0_add_41 : decode cX0_add 41 = .ok (.getfield 25, 3) := by decide +kernel
theorem dX0_add_44 : decode cX0_add 44 = .ok (.iload 5, 2) := by decide +kernel
theorem dX0_add_46 : decode cX0_add 46 = .ok (.iload 4, 2) := by decide +kernel
theorem dX0_add_48 : decode cX0_add 48 = .ok (.iastore, 1) := by decide +kernel
theorem dX0_add_49 : decode cX0_add 49 = .ok (.aload_n 0, 1) := by decide +kernel
theorem dX0_add_50 : decode cX0_add 50 = .ok (.getfield 28, 3) := by decide +kernel
theorem dX0_add_53 : decode cX0_add 53 = .ok (.iload 5, 2) := by decide +kernel
theorem dX0_add_55 : decode cX0_add 55 = .ok (.iconst 1, 1) := by decide +kernel
theorem dX0_add_56 : decode cX0_add 56 = .ok (.bastore, 1) := by decide +kernel
theorem dX0_add_57 : decode cX0_add 57 = .ok (.iload 5, 2) := by decide +kernel
theorem dX0_add_59 : decode cX0_add 59 = .ok (.ireturn, 1) := by decide +kernel
theorem dX0_countOn_0 : decode cX0_countOn 0 = .ok (.iconst 0, 1) := by decide +kernel
theorem dX0_countOn_1 : decode cX0_countOn 1 = .ok (.istore_n 1, 1) := by decide +kernel
theorem dX0_countOn_2 : decode cX0_countOn 2 = .ok (.iconst 0, 1) := by decide +kernel
theorem dX0_countOn_3 : decode cX0_countOn 3 = .ok (.istore_n 2, 1) := by decide +kernel
theorem dX0_countOn_4 : decode cX0_countOn 4 = .ok (.iload_n 2, 1) := by decide +kernel
theorem dX0_countOn_5 : decode cX0_countOn 5 = .ok (.aload_n 0, 1) := by decide +kernel
theorem dX0_countOn_6 : decode cX0_countOn 6 = .ok (.getfield 9, 3) := by decide +kernel
theorem dX0_countOn_9 : decode cX0_countOn 9 = .ok (.if_icmp .ge 21, 3) := by decide +kernel
theorem dX0_countOn_12 : decode cX0_countOn 12 = .ok (.aload_n 0, 1) := by decide +kernel
theorem dX0_countOn_13 : decode cX0_countOn 13 = .ok (.getfield 28, 3) := by decide +kernel
theorem dX0_countOn_16 : decode cX0_countOn 16 = .ok (.iload_n 2, 1) := by decide +kernel
theorem dX0_countOn_17 : decode cX0_countOn 17 = .ok (.baload, 1) := by decide +kernel
theorem dX0_countOn_18 : decode cX0_countOn 18 = .ok (.ifCond .eq 6, 3) := by decide +kernel
theorem dX0_countOn_21 : decode cX0_countOn 21 = .ok (.iinc 1 1, 3) := by decide +kernel
theorem dX0_countOn_24 : decode cX0_countOn 24 = .ok (.iinc 2 1, 3) := by decide +kernel
theorem dX0_countOn_27 : decode cX0_countOn 27 = .ok (.goto (-23), 3) := by decide +kernel
theorem dX0_countOn_30 : decode cX0_countOn 30 = .ok (.iload_n 1, 1) := by decide +kernel
theorem dX0_countOn_31 : decode cX0_countOn 31 = .ok (.ireturn, 1) := by decide +kernel
theorem dX0_copyFrom_0 : decode cX0_copyFrom 0 = .ok (.aload_n 0, 1) := by decide +kernel
theorem dX0_copyFrom_1 : decode cX0_copyFrom 1 = .ok (.aload_n 1, 1) := by decide +kernel
theorem dX0_copyFrom_2 : decode cX0_copyFrom 2 = .ok (.getfield 9, 3) := by decide +kernel
theorem dX0_copyFrom_5 : decode cX0_copyFrom 5 = .ok (.putfield 9, 3) := by decide +kernel
theorem dX0_copyFrom_8 : decode cX0_copyFrom 8 = .ok (.iconst 0, 1) := by decide +kernel
theorem dX0_copyFrom_9 : decode cX0_copyFrom 9 = .ok (.istore_n 2, 1) := by decide +kernel
theorem dX0_copyFrom_10 : decode cX0_copyFrom 10 = .ok (.iload_n 2, 1) := by decide +kernel
theorem dX0_copyFrom_11 : decode cX0_copyFrom 11 = .ok (.bipush 12, 2) := by decide +kernel
theorem dX0_copyFrom_13 : decode cX0_copyFrom 13 = .ok (.if_icmp .ge 69, 3) := by decide +kernel
theorem dX0_copyFrom_16 : decode cX0_copyFrom 16 = .ok (.aload_n 0, 1) := by decide +kernel
theorem dX0_copyFrom_17 : decode cX0_copyFrom 17 = .ok (.getfield 15, 3) := by decide +kernel
theorem dX0_copyFrom_20 : decode cX0_copyFrom 20 = .ok (.iload_n 2, 1) := by decide +kernel
theorem dX0_copyFrom_21 : decode cX0_copyFrom 21 = .ok (.aload_n 1, 1) := by decide +kernel
theorem dX0_copyFrom_22 : decode cX0_copyFrom 22 = .ok (.getfield 15, 3) := by decide +kernel
theorem dX0_copyFrom_25 : decode cX0_copyFrom 25 = .ok (.iload_n 2, 1) := by decide +kernel
theorem dX0_copyFrom_26 : decode cX0_copyFrom 26 = .ok (.iaload, 1) := by decide +kernel
theorem dX0_copyFrom_27 : decode cX0_copyFrom 27 = .ok (.iastore, 1) := by decide +kernel
theorem dX0_copyFrom_28 : decode cX0_copyFrom 28 = .ok (.aload_n 0, 1) := by decide +kernel
theorem dX0_copyFrom_29 : decode cX0_copyFrom 29 = .ok (.getfield 19, 3) := by decide +kernel
theorem dX0_copyFrom_32 : decode cX0_copyFrom 32 = .ok (.iload_n 2, 1) := by decide +kernel
theorem dX0_copyFrom_33 : decode cX0_copyFrom 33 = .ok (.aload_n 1, 1) := by decide +kernel
theorem dX0_copyFrom_34 : decode cX0_copyFrom 34 = .ok (.getfield 19, 3) := by decide +kernel
theorem dX0_copyFrom_37 : decode cX0_copyFrom 37 = .ok (.iload_n 2, 1) := by decide +kernel
theorem dX0_copyFrom_38 : decode cX0_copyFrom 38 = .ok (.iaload, 1) := by decide +kernel
theorem dX0_copyFrom_39 : decode cX0_copyFrom 39 = .ok (.iastore, 1) := by decide +kernel
theorem dX0_copyFrom_40 : decode cX0_copyFrom 40 = .ok (.aload_n 0, 1) := by decide +kernel
theorem dX0_copyFrom_41 : decode cX0_copyFrom 41 = .ok (.getfield 22, 3) := by decide +kernel
theorem dX0_copyFrom_44 : decode cX0_copyFrom 44 = .ok (.iload_n 2, 1) := by decide +kernel
theorem dX0_copyFrom_45 : decode cX0_copyFrom 45 = .ok (.aload_n 1, 1) := by decide +kernel
theorem dX0_copyFrom_46 : decode cX0_copyFrom 46 = .ok (.getfield 22, 3) := by decide +kernel
theorem dX0_copyFrom_49 : decode cX0_copyFrom 49 = .ok (.iload_n 2, 1) := by decide +kernel
theorem dX0_copyFrom_50 : decode cX0_copyFrom 50 = .ok (.iaload, 1) := by decide +kernel
theorem dX0_copyFrom_51 : decode cX0_copyFrom 51 = .ok (.iastore, 1) := by decide +kernel
theorem dX0_copyFrom_52 : decode cX0_copyFrom 52 = .ok (.aload_n 0, 1) := by decide +kernel
theorem dX0_copyFrom_53 : decode cX0_copyFrom 53 = .ok (.getfield 25, 3) := by decide +kernel
theorem dX0_copyFrom_56 : decode cX0_copyFrom 56 = .ok (.iload_n 2, 1) := by decide +kernel
theorem dX0_copyFrom_57 : decode cX0_copyFrom 57 = .ok (.aload_n 1, 1) := by decide +kernel
theorem dX0_copyFrom_58 : decode cX0_copyFrom 58 = .ok (.getfield 25, 3) := by decide +kernel
theorem dX0_copyFrom_61 : decode cX0_copyFrom 61 = .ok (.iload_n 2, 1) := by decide +kernel
theorem dX0_copyFrom_62 : decode cX0_copyFrom 62 = .ok (.iaload, 1) := by decide +kernel
theorem dX0_copyFrom_63 : decode cX0_copyFrom 63 = .ok (.iastore, 1) := by decide +kernel
theorem dX0_copyFrom_64 : decode cX0_copyFrom 64 = .ok (.aload_n 0, 1) := by decide +kernel
theorem dX0_copyFrom_65 : decode cX0_copyFrom 65 = .ok (.getfield 28, 3) := by decide +kernel
theorem dX0_copyFrom_68 : decode cX0_copyFrom 68 = .ok (.iload_n 2, 1) := by decide +kernel
theorem dX0_copyFrom_69 : decode cX0_copyFrom 69 = .ok (.aload_n 1, 1) := by decide +kernel
theorem dX0_copyFrom_70 : decode cX0_copyFrom 70 = .ok (.getfield 28, 3) := by decide +kernel
theorem dX0_copyFrom_73 : decode cX0_copyFrom 73 = .ok (.iload_n 2, 1) := by decide +kernel
theorem dX0_copyFrom_74 : decode cX0_copyFrom 74 = .ok (.baload, 1) := by decide +kernel
theorem dX0_copyFrom_75 : decode cX0_copyFrom 75 = .ok (.bastore, 1) := by decide +kernel
theorem dX0_copyFrom_76 : decode cX0_copyFrom 76 = .ok (.iinc 2 1, 3) := by decide +kernel
theorem dX0_copyFrom_79 : decode cX0_copyFrom 79 = .ok (.goto (-69), 3) := by decide +kernel
theorem dX0_copyFrom_82 : decode cX0_copyFrom 82 = .ok (.return_, 1) := by decide +kernel
theorem dX1_init_0 : decode cX1_init 0 = .ok (.aload_n 0, 1) := by decide +kernel
theorem dX1_init_1 : decode cX1_init 1 = .ok (.invokespecial 3, 3) := by decide +kernel
theorem dX1_init_4 : decode cX1_init 4 = .ok (.aload_n 0, 1) := by decide +kernel
theorem dX1_init_5 : decode cX1_init 5 = .ok (.sipush 360, 3) := by decide +kernel
theorem dX1_init_8 : decode cX1_init 8 = .ok (.newarray .int, 2) := by decide +kernel
theorem dX1_init_10 : decode cX1_init 10 = .ok (.putfield 9, 3) := by decide +kernel
theorem dX1_init_13 : decode cX1_init 13 = .ok (.aload_n 0, 1) := by decide +kernel
theorem dX1_init_14 : decode cX1_init 14 = .ok (.iconst 2, 1) := by decide +kernel
theorem dX1_init_15 : decode cX1_init 15 = .ok (.putfield 15, 3) := by decide +kernel
theorem dX1_init_18 : decode cX1_init 18 = .ok (.aload_n 0, 1) := by decide +kernel
theorem dX1_init_19 : decode cX1_init 19 = .ok (.iconst 2, 1) := by decide +kernel
theorem dX1_init_20 : decode cX1_init 20 = .ok (.putfield 19, 3) := by decide +kernel
theorem dX1_init_23 : decode cX1_init 23 = .ok (.aload_n 0, 1) := by decide +kernel
theorem dX1_init_24 : decode cX1_init 24 = .ok (.iconst 4, 1) := by decide +kernel
theorem dX1_init_25 : decode cX1_init 25 = .ok (.putfield 22, 3) := by decide +kernel
theorem dX1_init_28 : decode cX1_init 28 = .ok (.aload_n 0, 1) := by decide +kernel
theorem dX1_init_29 : decode cX1_init 29 = .ok (.iconst 0, 1) := by decide +kernel
theorem dX1_init_30 : decode cX1_init 30 = .ok (.putfield 25, 3) := by decide +kernel
theorem dX1_init_33 : decode cX1_init 33 = .ok (.return_, 1) := by decide +kernel
theorem dX1_start_0 : decode cX1_start 0 = .ok (.aload_n 0, 1) := by decide +kernel
theorem dX1_start_1 : decode cX1_start 1 = .ok (.iload_n 1, 1) := by decide +kernel
theorem dX1_start_2 : decode cX1_start 2 = .ok (.putfield 15, 3) := by decide +kernel
theorem dX1_start_5 : decode cX1_start 5 = .ok (.aload_n 0, 1) := by decide +kernel
theorem dX1_start_6 : decode cX1_start 6 = .ok (.iload_n 2, 1) := by decide +kernel
theorem dX1_start_7 : decode cX1_start 7 = .ok (.putfield 19, 3) := by decide +kernel
theorem dX1_start_10 : decode cX1_start 10 = .ok (.aload_n 0, 1) := by decide +kernel
theorem dX1_start_11 : decode cX1_start 11 = .ok (.iload_n 1, 1) := by decide +kernel
theorem dX1_start_12 : decode cX1_start 12 = .ok (.iload_n 2, 1) := by decide +kernel
theorem dX1_start_13 : decode cX1_start 13 = .ok (.imul, 1) := by decide +kernel
theorem dX1_start_14 : decode cX1_start 14 = .ok (.putfield 22, 3) := by decide +kernel
theorem dX1_start_17 : decode cX1_start 17 = .ok (.aload_n 0, 1) := by decide +kernel
theorem dX1_start_18 : decode cX1_start 18 = .ok (.iconst 0, 1) := by decide +kernel
theorem dX1_start_19 : decode cX1_start 19 = .ok (.putfield 25, 3) := by decide +kernel
theorem dX1_start_22 : decode cX1_start 22 = .ok (.return_, 1) := by decide +kernel
theorem dX1_hasFrame_0 : decode cX1_hasFrame 0 = .ok (.iload_n 1, 1) := by decide +kernel
theorem dX1_hasFrame_1 : decode cX1_hasFrame 1 = .ok (.ifCond .lt 15, 3) := by decide +kernel
theorem dX1_hasFrame_4 : decode cX1_hasFrame 4 = .ok (.iload_n 1, 1) := by decide +kernel
theorem dX1_hasFrame_5 : decode cX1_hasFrame 5 = .ok (.aload_n 0, 1) := by decide +kernel
theorem dX1_hasFrame_6 : decode cX1_hasFrame 6 = .ok (.getfield 25, 3) := by decide +kernel
theorem dX1_hasFrame_9 : decode cX1_hasFrame 9 = .ok (.if_icmp .ge 7, 3) := by decide +kernel
theorem dX1_hasFrame_12 : decode cX1_hasFrame 12 = .ok (.iconst 1, 1) := by decide +kernel
theorem dX1_hasFrame_13 : decode cX1_hasFrame 13 = .ok (.goto 4, 3) := by decide +kernel
theorem dX1_hasFrame_16 : decode cX1_hasFrame 16 = .ok (.iconst 0, 1) := by decide +kernel
theorem dX1_hasFrame_17 : decode cX1_hasFrame 17 = .ok (.ireturn, 1) := by decide +kernel
theorem dX1_hasPlace_0 : decode cX1_hasPlace 0 = .ok (.iload_n 1, 1) := by decide +kernel
theorem dX1_hasPlace_1 : decode cX1_hasPlace 1 = .ok (.ifCond .lt 15, 3) := by decide +kernel
theorem dX1_hasPlace_4 : decode cX1_hasPlace 4 = .ok (.iload_n 1, 1) := by decide +kernel
theorem dX1_hasPlace_5 : decode cX1_hasPlace 5 = .ok (.aload_n 0, 1) := by decide +kernel
theorem dX1_hasPlace_6 : decode cX1_hasPlace 6 = .ok (.getfield 22, 3) := by decide +kernel
theorem dX1_hasPlace_9 : decode cX1_hasPlace 9 = .ok (.if_icmp .ge 7, 3) := by decide +kernel
theorem dX1_hasPlace_12 : decode cX1_hasPlace 12 = .ok (.iconst 1, 1) := by decide +kernel
theorem dX1_hasPlace_13 : decode cX1_hasPlace 13 = .ok (.goto 4, 3) := by decide +kernel
theorem dX1_hasPlace_16 : decode cX1_hasPlace 16 = .ok (.iconst 0, 1) := by decide +kernel
theorem dX1_hasPlace_17 : decode cX1_hasPlace 17 = .ok (.ireturn, 1) := by decide +kernel
theorem dX1_placeOf_0 : decode cX1_placeOf 0 = .ok (.iload_n 1, 1) := by decide +kernel
theorem dX1_placeOf_1 : decode cX1_placeOf 1 = .ok (.ifCond .lt 23, 3) := by decide +kernel
theorem dX1_placeOf_4 : decode cX1_placeOf 4 = .ok (.iload_n 1, 1) := by decide +kernel
theorem dX1_placeOf_5 : decode cX1_placeOf 5 = .ok (.aload_n 0, 1) := by decide +kernel
theorem dX1_placeOf_6 : decode cX1_placeOf 6 = .ok (.getfield 15, 3) := by decide +kernel
theorem dX1_placeOf_9 : decode cX1_placeOf 9 = .ok (.if_icmp .ge 15, 3) := by decide +kernel
theorem dX1_placeOf_12 : decode cX1_placeOf 12 = .ok (.iload_n 2, 1) := by decide +kernel
theorem dX1_placeOf_13 : decode cX1_placeOf 13 = .ok (.ifCond .lt 11, 3) := by decide +kernel
theorem dX1_placeOf_16 : decode cX1_placeOf 16 = .ok (.iload_n 2, 1) := by decide +kernel
theorem dX1_placeOf_17 : decode cX1_placeOf 17 = .ok (.aload_n 0, 1) := by decide +kernel
theorem dX1_placeOf_18 : decode cX1_placeOf 18 = .ok (.getfield 19, 3) := by decide +kernel
theorem dX1_placeOf_21 : decode cX1_placeOf 21 = .ok (.if_icmp .lt 7, 3) := by decide +kernel
theorem dX1_placeOf_24 : decode cX1_placeOf 24 = .ok (.sipush (-1000), 3) := by decide +kernel
theorem dX1_placeOf_27 : decode cX1_placeOf 27 = .ok (.ireturn, 1) := by decide +kernel
theorem dX1_placeOf_28 : decode cX1_placeOf 28 = .ok (.iload_n 1, 1) := by decide +kernel
theorem dX1_placeOf_29 : decode cX1_placeOf 29 = .ok (.aload_n 0, 1) := by decide +kernel
theorem dX1_placeOf_30 : decode cX1_placeOf 30 = .ok (.getfield 19, 3) := by decide +kernel
theorem dX1_placeOf_33 : decode cX1_placeOf 33 = .ok (.imul, 1) := by decide +kernel
theorem dX1_placeOf_34 : decode cX1_placeOf 34 = .ok (.iload_n 2, 1) := by decide +kernel
theorem dX1_placeOf_35 : decode cX1_placeOf 35 = .ok (.iadd, 1) := by decide +kernel
theorem dX1_placeOf_36 : decode cX1_placeOf 36 = .ok (.ireturn, 1) := by decide +kernel
set_option maxRecDepth 20000 in
theorem ggX1_greyAt_X1_hasFrame : GoodIn wsX1_greyAt wsX1_hasFrame := goodIn_r _ [6, 7, 13, 14, 15, 16, 17] (by decide +kernel) (by decide +kernel)
set_option maxRecDepth 20000 in
theorem gX1_greyAt_X1_hasFrame : GoodIn wsX1_greyAt (wsV RX1 28 RX1 yX1_hasFrame wsX1_hasFrame) := goodIn_app (goodIn_of _ (by decide +kernel)) ggX1_greyAt_X1_hasFrame
set_option maxRecDepth 20000 in
theorem ggX1_greyAt_X1_hasPlace : GoodIn wsX1_greyAt wsX1_hasPlace := goodIn_r _ [11, 12, 13, 14, 15, 16, 17] (by decide +kernel) (by decide +kernel)
set_option maxRecDepth 20000 in
theorem gX1_greyAt_X1_hasPlace : GoodIn wsX1_greyAt (wsV RX1 32 RX1 yX1_hasPlace wsX1_hasPlace) := goodIn_app (goodIn_of _ (by decide +kernel)) ggX1_greyAt_X1_hasPlace
theorem dX1_greyAt_0 : decode cX1_greyAt 0 = .ok (.aload_n 0, 1) := by decide +kernel
theorem dX1_greyAt_1 : decode cX1_greyAt 1 = .ok (.iload_n 1, 1) := by decide +kernel
theorem dX1_greyAt_2 : decode cX1_greyAt 2 = .ok (.invokevirtual 28, 3) := by decide +kernel
theorem dX1_greyAt_5 : decode cX1_greyAt 5 = .ok (.ifCond .eq 11, 3) := by decide +kernel
theorem dX1_greyAt_8 : decode cX1_greyAt 8 = .ok (.aload_n 0, 1) := by decide +kernel
theorem dX1_greyAt_9 : decode cX1_greyAt 9 = .ok (.iload_n 2, 1) := by decide +kernel
theorem dX1_greyAt_10 : decode cX1_greyAt 10 = .ok (.invokevirtual 32, 3) := by decide +kernel
theorem dX1_greyAt_13 : decode cX1_greyAt 13 = .ok (.ifCond .ne 5, 3) := by decide +kernel
theorem dX1_greyAt_16 : decode cX1_greyAt 16 = .ok (.iconst (-1), 1) := by decide +kernel
theorem dX1_greyAt_17 : decode cX1_greyAt 17 = .ok (.ireturn, 1) := by decide +kernel
theorem dX1_greyAt_18 : decode cX1_greyAt 18 = .ok (.aload_n 0, 1) := by decide +kernel
theorem dX1_greyAt_19 : decode cX1_greyAt 19 = .ok (.getfield 9, 3) := by decide +kernel
theorem dX1_greyAt_22 : decode cX1_greyAt 22 = .ok (.iload_n 1, 1) := by decide +kernel
theorem dX1_greyAt_23 : decode cX1_greyAt 23 = .ok (.bipush 36, 2) := by decide +kernel
theorem dX1_greyAt_25 : decode cX1_greyAt 25 = .ok (.imul, 1) := by decide +kernel
theorem dX1_greyAt_26 : decode cX1_greyAt 26 = .ok (.iload_n 2, 1) := by decide +kernel
theorem dX1_greyAt_27 : decode cX1_greyAt 27 = .ok (.iadd, 1) := by decide +kernel
theorem dX1_greyAt_28 : decode cX1_greyAt 28 = .ok (.iaload, 1) := by decide +kernel
theorem dX1_greyAt_29 : decode cX1_greyAt 29 = .ok (.ireturn, 1) := by decide +kernel
set_option maxRecDepth 20000 in
theorem ggX1_setGrey_X1_hasFrame : GoodIn wsX1_setGrey wsX1_hasFrame := goodIn_r _ [6, 7, 13, 14, 15, 16, 17] (by decide +kernel) (by decide +kernel)
set_option maxRecDepth 20000 in
theorem gX1_setGrey_X1_hasFrame : GoodIn wsX1_setGrey (wsV RX1 28 RX1 yX1_hasFrame wsX1_hasFrame) := goodIn_app (goodIn_of _ (by decide +kernel)) ggX1_setGrey_X1_hasFrame
set_option maxRecDepth 20000 in
theorem ggX1_setGrey_X1_hasPlace : GoodIn wsX1_setGrey wsX1_hasPlace := goodIn_r _ [11, 12, 13, 14, 15, 16, 17] (by decide +kernel) (by decide +kernel)
set_option maxRecDepth 20000 in
theorem gX1_setGrey_X1_hasPlace : GoodIn wsX1_setGrey (wsV RX1 32 RX1 yX1_hasPlace wsX1_hasPlace) := goodIn_app (goodIn_of _ (by decide +kernel)) ggX1_setGrey_X1_hasPlace
theorem dX1_setGrey_0 : decode cX1_setGrey 0 = .ok (.aload_n 0, 1) := by decide +kernel
theorem dX1_setGrey_1 : decode cX1_setGrey 1 = .ok (.iload_n 1, 1) := by decide +kernel
theorem dX1_setGrey_2 : decode cX1_setGrey 2 = .ok (.invokevirtual 28, 3) := by decide +kernel
theorem dX1_setGrey_5 : decode cX1_setGrey 5 = .ok (.ifCond .eq 23, 3) := by decide +kernel
theorem dX1_setGrey_8 : decode cX1_setGrey 8 = .ok (.aload_n 0, 1) := by decide +kernel
theorem dX1_setGrey_9 : decode cX1_setGrey 9 = .ok (.iload_n 2, 1) := by decide +kernel
theorem dX1_setGrey_10 : decode cX1_setGrey 10 = .ok (.invokevirtual 32, 3) := by decide +kernel
theorem dX1_setGrey_13 : decode cX1_setGrey 13 = .ok (.ifCond .eq 15, 3) := by decide +kernel
theorem dX1_setGrey_16 : decode cX1_setGrey 16 = .ok (.aload_n 0, 1) := by decide +kernel
theorem dX1_setGrey_17 : decode cX1_setGrey 17 = .ok (.getfield 9, 3) := by decide +kernel
theorem dX1_setGrey_20 : decode cX1_setGrey 20 = .ok (.iload_n 1, 1) := by decide +kernel
theorem dX1_setGrey_21 : decode cX1_setGrey 21 = .ok (.bipush 36, 2) := by decide +kernel
theorem dX1_setGrey_23 : decode cX1_setGrey 23 = .ok (.imul, 1) := by decide +kernel
theorem dX1_setGrey_24 : decode cX1_setGrey 24 = .ok (.iload_n 2, 1) := by decide +kernel
theorem dX1_setGrey_25 : decode cX1_setGrey 25 = .ok (.iadd, 1) := by decide +kernel
theorem dX1_setGrey_26 : decode cX1_setGrey 26 = .ok (.iload_n 3, 1) := by decide +kernel
theorem dX1_setGrey_27 : decode cX1_setGrey 27 = .ok (.iastore, 1) := by decide +kernel
theorem dX1_setGrey_28 : decode cX1_setGrey 28 = .ok (.return_, 1) := by decide +kernel
set_option maxRecDepth 20000 in
theorem ggX1_addFrame_X1_setGrey : GoodIn wsX1_addFrame wsX1_setGrey := goodIn_r _ [7, 8, 9, 10, 11, 6, 12, 1, 13, 14, 15, 16, 2, 17, 18, 19, 20, 21] (by decide +kernel) (by decide +kernel)
set_option maxRecDepth 20000 in
theorem gX1_addFrame_X1_setGrey : GoodIn wsX1_addFrame (wsV RX1 35 RX1 yX1_setGrey wsX1_setGrey) := goodIn_app (goodIn_of _ (by decide +kernel)) ggX1_addFrame_X1_setGrey
theorem dX1_addFrame_0 : decode cX1_addFrame 0 = .ok (.aload_n 0, 1) := by decide +kernel
theorem dX1_addFrame_1 : decode cX1_addFrame 1 = .ok (.getfield 25, 3) := by decide +kernel
theorem dX1_addFrame_4 : decode cX1_addFrame 4 = .ok (.istore_n 1, 1) := by decide +kernel
theorem dX1_addFrame_5 : decode cX1_addFrame 5 = .ok (.aload_n 0, 1) := by decide +kernel
theorem dX1_addFrame_6 : decode cX1_addFrame 6 = .ok (.dup, 1) := by decide +kernel
theorem dX1_addFrame_7 : decode cX1_addFrame 7 = .ok (.getfield 25, 3) := by decide +kernel
theorem dX1_addFrame_10 : decode cX1_addFrame 10 = .ok (.iconst 1, 1) := by decide +kernel
theorem dX1_addFrame_11 : decode cX1_addFrame 11 = .ok (.iadd, 1) := by decide +kernel
theorem dX1_addFrame_12 : decode cX1_addFrame 12 = .ok (.putfield 25, 3) := by decide +kernel
theorem dX1_addFrame_15 : decode cX1_addFrame 15 = .ok (.iconst 0, 1) := by decide +kernel
theorem dX1_addFrame_16 : decode cX1_addFrame 16 = .ok (.istore_n 2, 1) := by decide +kernel
theorem dX1_addFrame_17 : decode cX1_addFrame 17 = .ok (.iload_n 2, 1) := by decide +kernel
theorem dX1_addFrame_18 : decode cX1_addFrame 18 = .ok (.aload_n 0, 1) := by decide +kernel
theorem dX1_addFrame_19 : decode cX1_addFrame 19 = .ok (.getfield 22, 3) := by decide +kernel
theorem dX1_addFrame_22 : decode cX1_addFrame 22 = .ok (.if_icmp .ge 16, 3) := by decide +kernel
theorem dX1_addFrame_25 : decode cX1_addFrame 25 = .ok (.aload_n 0, 1) := by decide +kernel
theorem dX1_addFrame_26 : decode cX1_addFrame 26 = .ok (.iload_n 1, 1) := by decide +kernel
theorem dX1_addFrame_27 : decode cX1_addFrame 27 = .ok (.iload_n 2, 1) := by decide +kernel
theorem dX1_addFrame_28 : decode cX1_addFrame 28 = .ok (.iconst (-1), 1) := by decide +kernel
theorem dX1_addFrame_29 : decode cX1_addFrame 29 = .ok (.invokevirtual 35, 3) := by decide +kernel
theorem dX1_addFrame_32 : decode cX1_addFrame 32 = .ok (.iinc 2 1, 3) := by decide +kernel
theorem dX1_addFrame_35 : decode cX1_addFrame 35 = .ok (.goto (-18), 3) := by decide +kernel
theorem dX1_addFrame_38 : decode cX1_addFrame 38 = .ok (.iload_n 1, 1) := by decide +kernel
theorem dX1_addFrame_39 : decode cX1_addFrame 39 = .ok (.ireturn, 1) := by decide +kernel
set_option maxRecDepth 20000 in
theorem ggX1_countLost_X1_greyAt : GoodIn wsX1_countLost wsX1_greyAt := goodIn_r _ [7, 8, 9, 10, 11, 6, 12, 1, 13, 14, 15, 16, 2, 17, 18, 19, 20, 21] (by decide +kernel) (by decide +kernel)
set_option maxRecDepth 20000 in
theorem gX1_countLost_X1_greyAt : GoodIn wsX1_countLost (wsV RX1 39 RX1 yX1_greyAt wsX1_greyAt) := goodIn_app (goodIn_of _ (by decide +kernel)) ggX1_countLost_X1_greyAt
theorem dX1_countLost_0 : decode cX1_countLost 0 = .ok (.iconst 0, 1) := by decide +kernel
theorem dX1_countLost_1 : decode cX1_countLost 1 = .ok (.istore_n 1, 1) := by decide +kernel
theorem dX1_countLost_2 : decode cX1_countLost 2 = .ok (.iconst 0, 1) := by decide +kernel
theorem dX1_countLost_3 : decode cX1_countLost 3 = .ok (.istore_n 2, 1) := by decide +kernel
theorem dX1_countLost_4 : decode cX1_countLost 4 = .ok (.iload_n 2, 1) := by decide +kernel
theorem dX1_countLost_5 : decode cX1_countLost 5 = .ok (.aload_n 0, 1) := by decide +kernel
theorem dX1_countLost_6 : decode cX1_countLost 6 = .ok (.getfield 25, 3) := by decide +kernel
theorem dX1_countLost_9 : decode cX1_countLost 9 = .ok (.if_icmp .ge 38, 3) := by decide +kernel
theorem dX1_countLost_12 : decode cX1_countLost 12 = .ok (.iconst 0, 1) := by decide +kernel
theorem dX1_countLost_13 : decode cX1_countLost 13 = .ok (.istore_n 3, 1) := by decide +kernel
theorem dX1_countLost_14 : decode cX1_countLost 14 = .ok (.iload_n 3, 1) := by decide +kernel
theorem dX1_countLost_15 : decode cX1_countLost 15 = .ok (.aload_n 0, 1) := by decide +kernel
theorem dX1_countLost_16 : decode cX1_countLost 16 = .ok (.getfield 22, 3) := by decide +kernel
theorem dX1_countLost_19 : decode cX1_countLost 19 = .ok (.if_icmp .ge 22, 3) := by decide +kernel
theorem dX1_countLost_22 : decode cX1_countLost 22 = .ok (.aload_n 0, 1) := by decide +kernel
theorem dX1_countLost_23 : decode cX1_countLost 23 = .ok (.iload_n 2, 1) := by decide +kernel
theorem dX1_countLost_24 : decode cX1_countLost 24 = .ok (.iload_n 3, 1) := by decide +kernel
theorem dX1_countLost_25 : decode cX1_countLost 25 = .ok (.invokevirtual 39, 3) := by decide +kernel
theorem dX1_countLost_28 : decode cX1_countLost 28 = .ok (.iconst (-1), 1) := by decide +kernel
theorem dX1_countLost_29 : decode cX1_countLost 29 = .ok (.if_icmp .ne 6, 3) := by decide +kernel
theorem dX1_countLost_32 : decode cX1_countLost 32 = .ok (.iinc 1 1, 3) := by decide +kernel
theorem dX1_countLost_35 : decode cX1_countLost 35 = .ok (.iinc 3 1, 3) := by decide +kernel
theorem dX1_countLost_38 : decode cX1_countLost 38 = .ok (.goto (-24), 3) := by decide +kernel
theorem dX1_countLost_41 : decode cX1_countLost 41 = .ok (.iinc 2 1, 3) := by decide +kernel
theorem dX1_countLost_44 : decode cX1_countLost 44 = .ok (.goto (-40), 3) := by decide +kernel
theorem dX1_countLost_47 : decode cX1_countLost 47 = .ok (.iload_n 1, 1) := by decide +kernel
theorem dX1_countLost_48 : decode cX1_countLost 48 = .ok (.ireturn, 1) := by decide +kernel
theorem dX1_copyFrom_0 : decode cX1_copyFrom 0 = .ok (.aload_n 0, 1) := by decide +kernel
theorem dX1_copyFrom_1 : decode cX1_copyFrom 1 = .ok (.aload_n 1, 1) := by decide +kernel
theorem dX1_copyFrom_2 : decode cX1_copyFrom 2 = .ok (.getfield 15, 3) := by decide +kernel
theorem dX1_copyFrom_5 : decode cX1_copyFrom 5 = .ok (.putfield 15, 3) := by decide +kernel
theorem dX1_copyFrom_8 : decode cX1_copyFrom 8 = .ok (.aload_n 0, 1) := by decide +kernel
theorem dX1_copyFrom_9 : decode cX1_copyFrom 9 = .ok (.aload_n 1, 1) := by decide +kernel
theorem dX1_copyFrom_10 : decode cX1_copyFrom 10 = .ok (.getfield 19, 3) := by decide +kernel
theorem dX1_copyFrom_13 : decode cX1_copyFrom 13 = .ok (.putfield 19, 3) := by decide +kernel
theorem dX1_copyFrom_16 : decode cX1_copyFrom 16 = .ok (.aload_n 0, 1) := by decide +kernel
theorem dX1_copyFrom_17 : decode cX1_copyFrom 17 = .ok (.aload_n 1, 1) := by decide +kernel
theorem dX1_copyFrom_18 : decode cX1_copyFrom 18 = .ok (.getfield 22, 3) := by decide +kernel
theorem dX1_copyFrom_21 : decode cX1_copyFrom 21 = .ok (.putfield 22, 3) := by decide +kernel
theorem dX1_copyFrom_24 : decode cX1_copyFrom 24 = .ok (.aload_n 0, 1) := by decide +kernel
theorem dX1_copyFrom_25 : decode cX1_copyFrom 25 = .ok (.aload_n 1, 1) := by decide +kernel
theorem dX1_copyFrom_26 : decode cX1_copyFrom 26 = .ok (.getfield 25, 3) := by decide +kernel
theorem dX1_copyFrom_29 : decode cX1_copyFrom 29 = .ok (.putfield 25, 3) := by decide +kernel
theorem dX1_copyFrom_32 : decode cX1_copyFrom 32 = .ok (.aload_n 1, 1) := by decide +kernel
theorem dX1_copyFrom_33 : decode cX1_copyFrom 33 = .ok (.getfield 9, 3) := by decide +kernel
theorem dX1_copyFrom_36 : decode cX1_copyFrom 36 = .ok (.iconst 0, 1) := by decide +kernel
theorem dX1_copyFrom_37 : decode cX1_copyFrom 37 = .ok (.aload_n 0, 1) := by decide +kernel
theorem dX1_copyFrom_38 : decode cX1_copyFrom 38 = .ok (.getfield 9, 3) := by decide +kernel
theorem dX1_copyFrom_41 : decode cX1_copyFrom 41 = .ok (.iconst 0, 1) := by decide +kernel
theorem dX1_copyFrom_42 : decode cX1_copyFrom 42 = .ok (.sipush 360, 3) := by decide +kernel
theorem dX1_copyFrom_45 : decode cX1_copyFrom 45 = .ok (.invokestatic 43, 3) := by decide +kernel
theorem dX1_copyFrom_48 : decode cX1_copyFrom 48 = .ok (.return_, 1) := by decide +kernel

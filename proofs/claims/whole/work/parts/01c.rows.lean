set_option maxRecDepth 20000 in
theorem ggX0_init_X1_init : GoodIn wsX0_init wsX1_init := goodIn_r _ [15, 16, 2, 3, 17, 18, 19, 20, 21, 22, 23, 24, 25] (by decide +kernel) (by decide +kernel)
set_option maxRecDepth 20000 in
theorem gX0_init_X1_init : GoodIn wsX0_init (wsX1_init) := ggX0_init_X1_init
theorem dX0_init_0 : decode cX0_init 0 = .ok (.aload_n 0, 1) := by decide +kernel
theorem dX0_init_1 : decode cX0_init 1 = .ok (.invokespecial 3, 3) := by decide +kernel
theorem dX0_init_4 : decode cX0_init 4 = .ok (.aload_n 0, 1) := by decide +kernel
theorem dX0_init_5 : decode cX0_init 5 = .ok (.new 9, 3) := by decide +kernel
theorem dX0_init_8 : decode cX0_init 8 = .ok (.dup, 1) := by decide +kernel
theorem dX0_init_9 : decode cX0_init 9 = .ok (.bipush 6, 2) := by decide +kernel
theorem dX0_init_11 : decode cX0_init 11 = .ok (.invokespecial 11, 3) := by decide +kernel
theorem dX0_init_14 : decode cX0_init 14 = .ok (.putfield 14, 3) := by decide +kernel
theorem dX0_init_17 : decode cX0_init 17 = .ok (.aload_n 0, 1) := by decide +kernel
theorem dX0_init_18 : decode cX0_init 18 = .ok (.new 9, 3) := by decide +kernel
theorem dX0_init_21 : decode cX0_init 21 = .ok (.dup, 1) := by decide +kernel
theorem dX0_init_22 : decode cX0_init 22 = .ok (.bipush 6, 2) := by decide +kernel
theorem dX0_init_24 : decode cX0_init 24 = .ok (.invokespecial 11, 3) := by decide +kernel
theorem dX0_init_27 : decode cX0_init 27 = .ok (.putfield 20, 3) := by decide +kernel
theorem dX0_init_30 : decode cX0_init 30 = .ok (.aload_n 0, 1) := by decide +kernel
theorem dX0_init_31 : decode cX0_init 31 = .ok (.aload_n 1, 1) := by decide +kernel
theorem dX0_init_32 : decode cX0_init 32 = .ok (.putfield 23, 3) := by decide +kernel
theorem dX0_init_35 : decode cX0_init 35 = .ok (.aload_n 0, 1) := by decide +kernel
theorem dX0_init_36 : decode cX0_init 36 = .ok (.aload_n 1, 1) := by decide +kernel
theorem dX0_init_37 : decode cX0_init 37 = .ok (.getfield 27, 3) := by decide +kernel
theorem dX0_init_40 : decode cX0_init 40 = .ok (.putfield 33, 3) := by decide +kernel
theorem dX0_init_43 : decode cX0_init 43 = .ok (.aload_n 0, 1) := by decide +kernel
theorem dX0_init_44 : decode cX0_init 44 = .ok (.lconst 1, 1) := by decide +kernel
theorem dX0_init_45 : decode cX0_init 45 = .ok (.putfield 36, 3) := by decide +kernel
theorem dX0_init_48 : decode cX0_init 48 = .ok (.return_, 1) := by decide +kernel
set_option maxRecDepth 20000 in
theorem ggX0_bottom_X0_tens : GoodIn wsX0_bottom wsX0_tens := goodIn_r _ [6] (by decide +kernel) (by decide +kernel)
set_option maxRecDepth 20000 in
theorem gX0_bottom_X0_tens : GoodIn wsX0_bottom (va_wsS RX0 40 yX0_tens wsX0_tens) := goodIn_app (goodIn_of _ (by decide +kernel)) ggX0_bottom_X0_tens
theorem dX0_bottom_0 : decode cX0_bottom 0 = .ok (.aload_n 0, 1) := by decide +kernel
theorem dX0_bottom_1 : decode cX0_bottom 1 = .ok (.getfield 36, 3) := by decide +kernel
theorem dX0_bottom_4 : decode cX0_bottom 4 = .ok (.iconst 2, 1) := by decide +kernel
theorem dX0_bottom_5 : decode cX0_bottom 5 = .ok (.aload_n 0, 1) := by decide +kernel
theorem dX0_bottom_6 : decode cX0_bottom 6 = .ok (.getfield 33, 3) := by decide +kernel
theorem dX0_bottom_9 : decode cX0_bottom 9 = .ok (.imul, 1) := by decide +kernel
theorem dX0_bottom_10 : decode cX0_bottom 10 = .ok (.iload_n 1, 1) := by decide +kernel
theorem dX0_bottom_11 : decode cX0_bottom 11 = .ok (.isub, 1) := by decide +kernel
theorem dX0_bottom_12 : decode cX0_bottom 12 = .ok (.iload_n 2, 1) := by decide +kernel
theorem dX0_bottom_13 : decode cX0_bottom 13 = .ok (.isub, 1) := by decide +kernel
theorem dX0_bottom_14 : decode cX0_bottom 14 = .ok (.invokestatic 40, 3) := by decide +kernel
theorem dX0_bottom_17 : decode cX0_bottom 17 = .ok (.lmul, 1) := by decide +kernel
theorem dX0_bottom_18 : decode cX0_bottom 18 = .ok (.lreturn, 1) := by decide +kernel
set_option maxRecDepth 20000 in
theorem ggX0_reckon_X5_tenthsOfA : GoodIn wsX0_reckon wsX5_tenthsOfA := goodIn_r _ [14, 15, 16, 64, 65, 66, 67, 68, 69, 70] (by decide +kernel) (by decide +kernel)
set_option maxRecDepth 20000 in
theorem gX0_reckon_X5_tenthsOfA : GoodIn wsX0_reckon (wsV RX0 44 RX5 yX5_tenthsOfA wsX5_tenthsOfA) := goodIn_app (goodIn_of _ (by decide +kernel)) ggX0_reckon_X5_tenthsOfA
set_option maxRecDepth 20000 in
theorem ggX0_reckon_X0_reckonScore : GoodIn wsX0_reckon wsX0_reckonScore := goodIn_r _ [21, 1, 4, 22, 23, 3, 24, 25, 26, 27, 13, 28, 29, 30, 8, 31, 32, 7, 9, 33, 34, 35, 36, 37, 38, 39, 20, 40, 5, 41, 42, 43, 44, 45, 46, 47, 48, 49, 50, 51, 52, 53, 54, 55, 56, 57, 58, 59, 60, 61, 62, 63, 64, 65, 66, 67, 68, 69, 70, 71, 72] (by decide +kernel) (by decide +kernel)
set_option maxRecDepth 20000 in
theorem gX0_reckon_X0_reckonScore : GoodIn wsX0_reckon (wsV RX0 57 RX0 yX0_reckonScore wsX0_reckonScore) := goodIn_app (goodIn_of _ (by decide +kernel)) ggX0_reckon_X0_reckonScore
theorem dX0_reckon_0 : decode cX0_reckon 0 = .ok (.aload_n 0, 1) := by decide +kernel
theorem dX0_reckon_1 : decode cX0_reckon 1 = .ok (.getfield 23, 3) := by decide +kernel
theorem dX0_reckon_4 : decode cX0_reckon 4 = .ok (.iload_n 1, 1) := by decide +kernel
theorem dX0_reckon_5 : decode cX0_reckon 5 = .ok (.invokevirtual 44, 3) := by decide +kernel
theorem dX0_reckon_8 : decode cX0_reckon 8 = .ok (.istore_n 2, 1) := by decide +kernel
theorem dX0_reckon_9 : decode cX0_reckon 9 = .ok (.bipush 10, 2) := by decide +kernel
theorem dX0_reckon_11 : decode cX0_reckon 11 = .ok (.iload_n 2, 1) := by decide +kernel
theorem dX0_reckon_12 : decode cX0_reckon 12 = .ok (.isub, 1) := by decide +kernel
theorem dX0_reckon_13 : decode cX0_reckon 13 = .ok (.istore_n 3, 1) := by decide +kernel
theorem dX0_reckon_14 : decode cX0_reckon 14 = .ok (.aload_n 0, 1) := by decide +kernel
theorem dX0_reckon_15 : decode cX0_reckon 15 = .ok (.aload_n 0, 1) := by decide +kernel
theorem dX0_reckon_16 : decode cX0_reckon 16 = .ok (.getfield 23, 3) := by decide +kernel
theorem dX0_reckon_19 : decode cX0_reckon 19 = .ok (.getfield 27, 3) := by decide +kernel
theorem dX0_reckon_22 : decode cX0_reckon 22 = .ok (.putfield 33, 3) := by decide +kernel
theorem dX0_reckon_25 : decode cX0_reckon 25 = .ok (.aload_n 0, 1) := by decide +kernel
theorem dX0_reckon_26 : decode cX0_reckon 26 = .ok (.aload_n 0, 1) := by decide +kernel
theorem dX0_reckon_27 : decode cX0_reckon 27 = .ok (.getfield 23, 3) := by decide +kernel
theorem dX0_reckon_30 : decode cX0_reckon 30 = .ok (.getfield 48, 3) := by decide +kernel
theorem dX0_reckon_33 : decode cX0_reckon 33 = .ok (.ifCond .ne 14, 3) := by decide +kernel
theorem dX0_reckon_36 : decode cX0_reckon 36 = .ok (.iload_n 2, 1) := by decide +kernel
theorem dX0_reckon_37 : decode cX0_reckon 37 = .ok (.iload_n 2, 1) := by decide +kernel
theorem dX0_reckon_38 : decode cX0_reckon 38 = .ok (.imul, 1) := by decide +kernel
theorem dX0_reckon_39 : decode cX0_reckon 39 = .ok (.iload_n 3, 1) := by decide +kernel
theorem dX0_reckon_40 : decode cX0_reckon 40 = .ok (.iload_n 3, 1) := by decide +kernel
theorem dX0_reckon_41 : decode cX0_reckon 41 = .ok (.imul, 1) := by decide +kernel
theorem dX0_reckon_42 : decode cX0_reckon 42 = .ok (.iadd, 1) := by decide +kernel
theorem dX0_reckon_43 : decode cX0_reckon 43 = .ok (.i2l, 1) := by decide +kernel
theorem dX0_reckon_44 : decode cX0_reckon 44 = .ok (.goto 4, 3) := by decide +kernel
theorem dX0_reckon_47 : decode cX0_reckon 47 = .ok (.lconst 1, 1) := by decide +kernel
theorem dX0_reckon_48 : decode cX0_reckon 48 = .ok (.putfield 36, 3) := by decide +kernel
theorem dX0_reckon_51 : decode cX0_reckon 51 = .ok (.aload_n 0, 1) := by decide +kernel
theorem dX0_reckon_52 : decode cX0_reckon 52 = .ok (.getfield 33, 3) := by decide +kernel
theorem dX0_reckon_55 : decode cX0_reckon 55 = .ok (.iconst 1, 1) := by decide +kernel
theorem dX0_reckon_56 : decode cX0_reckon 56 = .ok (.iadd, 1) := by decide +kernel
theorem dX0_reckon_57 : decode cX0_reckon 57 = .ok (.istore 4, 2) := by decide +kernel
theorem dX0_reckon_59 : decode cX0_reckon 59 = .ok (.iload 4, 2) := by decide +kernel
theorem dX0_reckon_61 : decode cX0_reckon 61 = .ok (.ifCond .lt 50, 3) := by decide +kernel
theorem dX0_reckon_64 : decode cX0_reckon 64 = .ok (.aload_n 0, 1) := by decide +kernel
theorem dX0_reckon_65 : decode cX0_reckon 65 = .ok (.getfield 33, 3) := by decide +kernel
theorem dX0_reckon_68 : decode cX0_reckon 68 = .ok (.iconst 1, 1) := by decide +kernel
theorem dX0_reckon_69 : decode cX0_reckon 69 = .ok (.iadd, 1) := by decide +kernel
theorem dX0_reckon_70 : decode cX0_reckon 70 = .ok (.iconst 2, 1) := by decide +kernel
theorem dX0_reckon_71 : decode cX0_reckon 71 = .ok (.aload_n 0, 1) := by decide +kernel
theorem dX0_reckon_72 : decode cX0_reckon 72 = .ok (.getfield 33, 3) := by decide +kernel
theorem dX0_reckon_75 : decode cX0_reckon 75 = .ok (.imul, 1) := by decide +kernel
theorem dX0_reckon_76 : decode cX0_reckon 76 = .ok (.iload 4, 2) := by decide +kernel
theorem dX0_reckon_78 : decode cX0_reckon 78 = .ok (.isub, 1) := by decide +kernel
theorem dX0_reckon_79 : decode cX0_reckon 79 = .ok (.invokestatic 51, 3) := by decide +kernel
theorem dX0_reckon_82 : decode cX0_reckon 82 = .ok (.istore 5, 2) := by decide +kernel
theorem dX0_reckon_84 : decode cX0_reckon 84 = .ok (.iload 5, 2) := by decide +kernel
theorem dX0_reckon_86 : decode cX0_reckon 86 = .ok (.ifCond .lt 19, 3) := by decide +kernel
theorem dX0_reckon_89 : decode cX0_reckon 89 = .ok (.aload_n 0, 1) := by decide +kernel
theorem dX0_reckon_90 : decode cX0_reckon 90 = .ok (.iload 4, 2) := by decide +kernel
theorem dX0_reckon_92 : decode cX0_reckon 92 = .ok (.iload 5, 2) := by decide +kernel
theorem dX0_reckon_94 : decode cX0_reckon 94 = .ok (.iload_n 2, 1) := by decide +kernel
theorem dX0_reckon_95 : decode cX0_reckon 95 = .ok (.iload_n 3, 1) := by decide +kernel
theorem dX0_reckon_96 : decode cX0_reckon 96 = .ok (.invokevirtual 57, 3) := by decide +kernel
theorem dX0_reckon_99 : decode cX0_reckon 99 = .ok (.iinc 5 (-1), 3) := by decide +kernel
theorem dX0_reckon_102 : decode cX0_reckon 102 = .ok (.goto (-18), 3) := by decide +kernel
theorem dX0_reckon_105 : decode cX0_reckon 105 = .ok (.iinc 4 (-1), 3) := by decide +kernel
theorem dX0_reckon_108 : decode cX0_reckon 108 = .ok (.goto (-49), 3) := by decide +kernel
theorem dX0_reckon_111 : decode cX0_reckon 111 = .ok (.return_, 1) := by decide +kernel
set_option maxRecDepth 20000 in
theorem ggX0_reckonScore_X5_gameWinner : GoodIn wsX0_reckonScore wsX5_gameWinner := goodIn_r _ [11, 12, 13, 14, 15, 16, 17, 18, 19, 20, 21, 10, 22, 52, 53, 54, 55, 56, 57, 58] (by decide +kernel) (by decide +kernel)
set_option maxRecDepth 20000 in
theorem gX0_reckonScore_X5_gameWinner : GoodIn wsX0_reckonScore (wsV RX0 61 RX5 yX5_gameWinner wsX5_gameWinner) := goodIn_app (goodIn_of _ (by decide +kernel)) ggX0_reckonScore_X5_gameWinner
set_option maxRecDepth 20000 in
theorem ggX0_reckonScore_X0_bottom : GoodIn wsX0_reckonScore wsX0_bottom := goodIn_r _ [27, 28, 5, 29, 30, 26, 31, 47, 48, 49, 50, 51] (by decide +kernel) (by decide +kernel)
set_option maxRecDepth 20000 in
theorem gX0_reckonScore_X0_bottom : GoodIn wsX0_reckonScore (wsV RX0 65 RX0 yX0_bottom wsX0_bottom) := goodIn_app (goodIn_of _ (by decide +kernel)) ggX0_reckonScore_X0_bottom
set_option maxRecDepth 20000 in
theorem ggX0_reckonScore_X1_put : GoodIn wsX0_reckonScore wsX1_put := goodIn_r _ [36, 37, 38, 39, 40, 41, 35, 42, 59, 60] (by decide +kernel) (by decide +kernel)
set_option maxRecDepth 20000 in
theorem gX0_reckonScore_X1_put : GoodIn wsX0_reckonScore (wsV RX0 69 RX1 yX1_put wsX1_put) := goodIn_app (goodIn_of _ (by decide +kernel)) ggX0_reckonScore_X1_put
set_option maxRecDepth 20000 in
theorem ggX0_reckonScore_X1_at : GoodIn wsX0_reckonScore wsX1_at := goodIn_r _ [46, 37, 38, 39, 40, 41, 35, 42, 59, 60] (by decide +kernel) (by decide +kernel)
set_option maxRecDepth 20000 in
theorem gX0_reckonScore_X1_at : GoodIn wsX0_reckonScore (wsV RX0 75 RX1 yX1_at wsX1_at) := goodIn_app (goodIn_of _ (by decide +kernel)) ggX0_reckonScore_X1_at
theorem dX0_reckonScore_0 : decode cX0_reckonScore 0 = .ok (.aload_n 0, 1) := by decide +kernel
theorem dX0_reckonScore_1 : decode cX0_reckonScore 1 = .ok (.getfield 23, 3) := by decide +kernel
theorem dX0_reckonScore_4 : decode cX0_reckonScore 4 = .ok (.aload_n 0, 1) := by decide +kernel
theorem dX0_reckonScore_5 : decode cX0_reckonScore 5 = .ok (.getfield 23, 3) := by decide +kernel
theorem dX0_reckonScore_8 : decode cX0_reckonScore 8 = .ok (.getfield 48, 3) := by decide +kernel
theorem dX0_reckonScore_11 : decode cX0_reckonScore 11 = .ok (.iload_n 1, 1) := by decide +kernel
theorem dX0_reckonScore_12 : decode cX0_reckonScore 12 = .ok (.iload_n 2, 1) := by decide +kernel
theorem dX0_reckonScore_13 : decode cX0_reckonScore 13 = .ok (.invokevirtual 61, 3) := by decide +kernel
theorem dX0_reckonScore_16 : decode cX0_reckonScore 16 = .ok (.istore 5, 2) := by decide +kernel
theorem dX0_reckonScore_18 : decode cX0_reckonScore 18 = .ok (.iload 5, 2) := by decide +kernel
theorem dX0_reckonScore_20 : decode cX0_reckonScore 20 = .ok (.ifCond .eq 41, 3) := by decide +kernel
theorem dX0_reckonScore_23 : decode cX0_reckonScore 23 = .ok (.aload_n 0, 1) := by decide +kernel
theorem dX0_reckonScore_24 : decode cX0_reckonScore 24 = .ok (.getfield 14, 3) := by decide +kernel
theorem dX0_reckonScore_27 : decode cX0_reckonScore 27 = .ok (.iload_n 1, 1) := by decide +kernel
theorem dX0_reckonScore_28 : decode cX0_reckonScore 28 = .ok (.iload_n 2, 1) := by decide +kernel
theorem dX0_reckonScore_29 : decode cX0_reckonScore 29 = .ok (.iload 5, 2) := by decide +kernel
theorem dX0_reckonScore_31 : decode cX0_reckonScore 31 = .ok (.iconst 1, 1) := by decide +kernel
theorem dX0_reckonScore_32 : decode cX0_reckonScore 32 = .ok (.if_icmp .ne 12, 3) := by decide +kernel
theorem dX0_reckonScore_35 : decode cX0_reckonScore 35 = .ok (.aload_n 0, 1) := by decide +kernel
theorem dX0_reckonScore_36 : decode cX0_reckonScore 36 = .ok (.iload_n 1, 1) := by decide +kernel
theorem dX0_reckonScore_37 : decode cX0_reckonScore 37 = .ok (.iload_n 2, 1) := by decide +kernel
theorem dX0_reckonScore_38 : decode cX0_reckonScore 38 = .ok (.invokevirtual 65, 3) := by decide +kernel
theorem dX0_reckonScore_41 : decode cX0_reckonScore 41 = .ok (.goto 4, 3) := by decide +kernel
theorem dX0_reckonScore_44 : decode cX0_reckonScore 44 = .ok (.lconst 0, 1) := by decide +kernel
theorem dX0_reckonScore_45 : decode cX0_reckonScore 45 = .ok (.invokevirtual 69, 3) := by decide +kernel
theorem dX0_reckonScore_48 : decode cX0_reckonScore 48 = .ok (.aload_n 0, 1) := by decide +kernel
theorem dX0_reckonScore_49 : decode cX0_reckonScore 49 = .ok (.getfield 20, 3) := by decide +kernel
theorem dX0_reckonScore_52 : decode cX0_reckonScore 52 = .ok (.iload_n 1, 1) := by decide +kernel
theorem dX0_reckonScore_53 : decode cX0_reckonScore 53 = .ok (.iload_n 2, 1) := by decide +kernel
theorem dX0_reckonScore_54 : decode cX0_reckonScore 54 = .ok (.lconst 0, 1) := by decide +kernel
theorem dX0_reckonScore_55 : decode cX0_reckonScore 55 = .ok (.invokevirtual 69, 3) := by decide +kernel
theorem dX0_reckonScore_58 : decode cX0_reckonScore 58 = .ok (.goto 128, 3) := by decide +kernel
theorem dX0_reckonScore_61 : decode cX0_reckonScore 61 = .ok (.iload_n 1, 1) := by decide +kernel
theorem dX0_reckonScore_62 : decode cX0_reckonScore 62 = .ok (.iload_n 2, 1) := by decide +kernel
theorem dX0_reckonScore_63 : decode cX0_reckonScore 63 = .ok (.iadd, 1) := by decide +kernel
theorem dX0_reckonScore_64 : decode cX0_reckonScore 64 = .ok (.iconst 2, 1) := by decide +kernel
theorem dX0_reckonScore_65 : decode cX0_reckonScore 65 = .ok (.aload_n 0, 1) := by decide +kernel
theorem dX0_reckonScore_66 : decode cX0_reckonScore 66 = .ok (.getfield 33, 3) := by decide +kernel
theorem dX0_reckonScore_69 : decode cX0_reckonScore 69 = .ok (.imul, 1) := by decide +kernel
theorem dX0_reckonScore_70 : decode cX0_reckonScore 70 = .ok (.if_icmp .ne 31, 3) := by decide +kernel
theorem dX0_reckonScore_73 : decode cX0_reckonScore 73 = .ok (.aload_n 0, 1) := by decide +kernel
theorem dX0_reckonScore_74 : decode cX0_reckonScore 74 = .ok (.getfield 14, 3) := by decide +kernel
theorem dX0_reckonScore_77 : decode cX0_reckonScore 77 = .ok (.iload_n 1, 1) := by decide +kernel
theorem dX0_reckonScore_78 : decode cX0_reckonScore 78 = .ok (.iload_n 2, 1) := by decide +kernel
theorem dX0_reckonScore_79 : decode cX0_reckonScore 79 = .ok (.iload_n 3, 1) := by decide +kernel
theorem dX0_reckonScore_80 : decode cX0_reckonScore 80 = .ok (.iload_n 3, 1) := by decide +kernel
theorem dX0_reckonScore_81 : decode cX0_reckonScore 81 = .ok (.imul, 1) := by decide +kernel
theorem dX0_reckonScore_82 : decode cX0_reckonScore 82 = .ok (.i2l, 1) := by decide +kernel
theorem dX0_reckonScore_83 : decode cX0_reckonScore 83 = .ok (.invokevirtual 69, 3) := by decide +kernel
theorem dX0_reckonScore_86 : decode cX0_reckonScore 86 = .ok (.aload_n 0, 1) := by decide +kernel
theorem dX0_reckonScore_87 : decode cX0_reckonScore 87 = .ok (.getfield 20, 3) := by decide +kernel
theorem dX0_reckonScore_90 : decode cX0_reckonScore 90 = .ok (.iload_n 1, 1) := by decide +kernel
theorem dX0_reckonScore_91 : decode cX0_reckonScore 91 = .ok (.iload_n 2, 1) := by decide +kernel
theorem dX0_reckonScore_92 : decode cX0_reckonScore 92 = .ok (.ldc2_w 73, 3) := by decide +kernel
theorem dX0_reckonScore_95 : decode cX0_reckonScore 95 = .ok (.invokevirtual 69, 3) := by decide +kernel
theorem dX0_reckonScore_98 : decode cX0_reckonScore 98 = .ok (.goto 88, 3) := by decide +kernel
theorem dX0_reckonScore_101 : decode cX0_reckonScore 101 = .ok (.aload_n 0, 1) := by decide +kernel
theorem dX0_reckonScore_102 : decode cX0_reckonScore 102 = .ok (.getfield 14, 3) := by decide +kernel
theorem dX0_reckonScore_105 : decode cX0_reckonScore 105 = .ok (.iload_n 1, 1) := by decide +kernel
theorem dX0_reckonScore_106 : decode cX0_reckonScore 106 = .ok (.iload_n 2, 1) := by decide +kernel
theorem dX0_reckonScore_107 : decode cX0_reckonScore 107 = .ok (.iload_n 3, 1) := by decide +kernel
theorem dX0_reckonScore_108 : decode cX0_reckonScore 108 = .ok (.i2l, 1) := by decide +kernel
theorem dX0_reckonScore_109 : decode cX0_reckonScore 109 = .ok (.aload_n 0, 1) := by decide +kernel
theorem dX0_reckonScore_110 : decode cX0_reckonScore 110 = .ok (.getfield 14, 3) := by decide +kernel
theorem dX0_reckonScore_113 : decode cX0_reckonScore 113 = .ok (.iload_n 1, 1) := by decide +kernel
theorem dX0_reckonScore_114 : decode cX0_reckonScore 114 = .ok (.iconst 1, 1) := by decide +kernel
theorem dX0_reckonScore_115 : decode cX0_reckonScore 115 = .ok (.iadd, 1) := by decide +kernel
theorem dX0_reckonScore_116 : decode cX0_reckonScore 116 = .ok (.iload_n 2, 1) := by decide +kernel
theorem dX0_reckonScore_117 : decode cX0_reckonScore 117 = .ok (.invokevirtual 75, 3) := by decide +kernel
theorem dX0_reckonScore_120 : decode cX0_reckonScore 120 = .ok (.lmul, 1) := by decide +kernel
theorem dX0_reckonScore_121 : decode cX0_reckonScore 121 = .ok (.iload 4, 2) := by decide +kernel
theorem dX0_reckonScore_123 : decode cX0_reckonScore 123 = .ok (.i2l, 1) := by decide +kernel
theorem dX0_reckonScore_124 : decode cX0_reckonScore 124 = .ok (.aload_n 0, 1) := by decide +kernel
theorem dX0_reckonScore_125 : decode cX0_reckonScore 125 = .ok (.getfield 14, 3) := by decide +kernel
theorem dX0_reckonScore_128 : decode cX0_reckonScore 128 = .ok (.iload_n 1, 1) := by decide +kernel
theorem dX0_reckonScore_129 : decode cX0_reckonScore 129 = .ok (.iload_n 2, 1) := by decide +kernel
theorem dX0_reckonScore_130 : decode cX0_reckonScore 130 = .ok (.iconst 1, 1) := by decide +kernel
theorem dX0_reckonScore_131 : decode cX0_reckonScore 131 = .ok (.iadd, 1) := by decide +kernel
theorem dX0_reckonScore_132 : decode cX0_reckonScore 132 = .ok (.invokevirtual 75, 3) := by decide +kernel
theorem dX0_reckonScore_135 : decode cX0_reckonScore 135 = .ok (.lmul, 1) := by decide +kernel
theorem dX0_reckonScore_136 : decode cX0_reckonScore 136 = .ok (.ladd, 1) := by decide +kernel
theorem dX0_reckonScore_137 : decode cX0_reckonScore 137 = .ok (.invokevirtual 69, 3) := by decide +kernel
theorem dX0_reckonScore_140 : decode cX0_reckonScore 140 = .ok (.aload_n 0, 1) := by decide +kernel
theorem dX0_reckonScore_141 : decode cX0_reckonScore 141 = .ok (.getfield 20, 3) := by decide +kernel
theorem dX0_reckonScore_144 : decode cX0_reckonScore 144 = .ok (.iload_n 1, 1) := by decide +kernel
theorem dX0_reckonScore_145 : decode cX0_reckonScore 145 = .ok (.iload_n 2, 1) := by decide +kernel
theorem dX0_reckonScore_146 : decode cX0_reckonScore 146 = .ok (.aload_n 0, 1) := by decide +kernel
theorem dX0_reckonScore_147 : decode cX0_reckonScore 147 = .ok (.iload_n 1, 1) := by decide +kernel
theorem dX0_reckonScore_148 : decode cX0_reckonScore 148 = .ok (.iload_n 2, 1) := by decide +kernel
theorem dX0_reckonScore_149 : decode cX0_reckonScore 149 = .ok (.invokevirtual 65, 3) := by decide +kernel
theorem dX0_reckonScore_152 : decode cX0_reckonScore 152 = .ok (.iload_n 3, 1) := by decide +kernel
theorem dX0_reckonScore_153 : decode cX0_reckonScore 153 = .ok (.i2l, 1) := by decide +kernel
theorem dX0_reckonScore_154 : decode cX0_reckonScore 154 = .ok (.aload_n 0, 1) := by decide +kernel
theorem dX0_reckonScore_155 : decode cX0_reckonScore 155 = .ok (.getfield 20, 3) := by decide +kernel
theorem dX0_reckonScore_158 : decode cX0_reckonScore 158 = .ok (.iload_n 1, 1) := by decide +kernel
theorem dX0_reckonScore_159 : decode cX0_reckonScore 159 = .ok (.iconst 1, 1) := by decide +kernel
theorem dX0_reckonScore_160 : decode cX0_reckonScore 160 = .ok (.iadd, 1) := by decide +kernel
theorem dX0_reckonScore_161 : decode cX0_reckonScore 161 = .ok (.iload_n 2, 1) := by decide +kernel
theorem dX0_reckonScore_162 : decode cX0_reckonScore 162 = .ok (.invokevirtual 75, 3) := by decide +kernel
theorem dX0_reckonScore_165 : decode cX0_reckonScore 165 = .ok (.lmul, 1) := by decide +kernel
theorem dX0_reckonScore_166 : decode cX0_reckonScore 166 = .ok (.ladd, 1) := by decide +kernel
theorem dX0_reckonScore_167 : decode cX0_reckonScore 167 = .ok (.iload 4, 2) := by decide +kernel
theorem dX0_reckonScore_169 : decode cX0_reckonScore 169 = .ok (.i2l, 1) := by decide +kernel
theorem dX0_reckonScore_170 : decode cX0_reckonScore 170 = .ok (.aload_n 0, 1) := by decide +kernel
theorem dX0_reckonScore_171 : decode cX0_reckonScore 171 = .ok (.getfield 20, 3) := by decide +kernel
theorem dX0_reckonScore_174 : decode cX0_reckonScore 174 = .ok (.iload_n 1, 1) := by decide +kernel
theorem dX0_reckonScore_175 : decode cX0_reckonScore 175 = .ok (.iload_n 2, 1) := by decide +kernel
theorem dX0_reckonScore_176 : decode cX0_reckonScore 176 = .ok (.iconst 1, 1) := by decide +kernel
theorem dX0_reckonScore_177 : decode cX0_reckonScore 177 = .ok (.iadd, 1) := by decide +kernel
theorem dX0_reckonScore_178 : decode cX0_reckonScore 178 = .ok (.invokevirtual 75, 3) := by decide +kernel
theorem dX0_reckonScore_181 : decode cX0_reckonScore 181 = .ok (.lmul, 1) := by decide +kernel
theorem dX0_reckonScore_182 : decode cX0_reckonScore 182 = .ok (.ladd, 1) := by decide +kernel
theorem dX0_reckonScore_183 : decode cX0_reckonScore 183 = .ok (.invokevirtual 69, 3) := by decide +kernel
theorem dX0_reckonScore_186 : decode cX0_reckonScore 186 = .ok (.return_, 1) := by decide +kernel
set_option maxRecDepth 20000 in
theorem ggX0_inMillionths_X0_reckon : GoodIn wsX0_inMillionths wsX0_reckon := goodIn_r _ [8, 1, 9, 10, 11, 12, 13, 14, 15, 16, 17, 18, 19, 20, 21, 22, 23, 24, 25, 26, 7, 27, 2, 28, 29, 30, 31, 32, 33, 34, 35, 36, 37, 38, 39, 40, 41, 42, 43, 44, 45, 46, 47, 48, 49, 50, 51, 52, 53, 54, 55, 56, 57, 58, 59, 60, 61, 62, 63, 69, 70, 71, 72, 73, 74, 75, 76, 77, 78, 79, 80, 81, 82] (by decide +kernel) (by decide +kernel)
set_option maxRecDepth 20000 in
theorem gX0_inMillionths_X0_reckon : GoodIn wsX0_inMillionths (wsV RX0 78 RX0 yX0_reckon wsX0_reckon) := goodIn_app (goodIn_of _ (by decide +kernel)) ggX0_inMillionths_X0_reckon
set_option maxRecDepth 20000 in
theorem ggX0_inMillionths_X5_headStartOfA : GoodIn wsX0_inMillionths wsX5_headStartOfA := goodIn_r _ [67, 68, 74, 75, 76, 77, 78, 79, 80] (by decide +kernel) (by decide +kernel)
set_option maxRecDepth 20000 in
theorem gX0_inMillionths_X5_headStartOfA : GoodIn wsX0_inMillionths (wsV RX0 81 RX5 yX5_headStartOfA wsX5_headStartOfA) := goodIn_app (goodIn_of _ (by decide +kernel)) ggX0_inMillionths_X5_headStartOfA
set_option maxRecDepth 20000 in
theorem ggX0_inMillionths_X0_bottom : GoodIn wsX0_inMillionths wsX0_bottom := goodIn_r _ [45, 12, 10, 46, 47, 7, 48, 69, 70, 71, 72, 73] (by decide +kernel) (by decide +kernel)
set_option maxRecDepth 20000 in
theorem gX0_inMillionths_X0_bottom : GoodIn wsX0_inMillionths (wsV RX0 65 RX0 yX0_bottom wsX0_bottom) := goodIn_app (goodIn_of _ (by decide +kernel)) ggX0_inMillionths_X0_bottom
set_option maxRecDepth 20000 in
theorem ggX0_inMillionths_X1_at : GoodIn wsX0_inMillionths wsX1_at := goodIn_r _ [63, 54, 55, 56, 57, 58, 52, 59, 81, 82] (by decide +kernel) (by decide +kernel)
set_option maxRecDepth 20000 in
theorem gX0_inMillionths_X1_at : GoodIn wsX0_inMillionths (wsV RX0 75 RX1 yX1_at wsX1_at) := goodIn_app (goodIn_of _ (by decide +kernel)) ggX0_inMillionths_X1_at
theorem dX0_inMillionths_0 : decode cX0_inMillionths 0 = .ok (.aload_n 0, 1) := by decide +kernel
theorem dX0_inMillionths_1 : decode cX0_inMillionths 1 = .ok (.iload_n 1, 1) := by decide +kernel
theorem dX0_inMillionths_2 : decode cX0_inMillionths 2 = .ok (.invokevirtual 78, 3) := by decide +kernel
theorem dX0_inMillionths_5 : decode cX0_inMillionths 5 = .ok (.aload_n 0, 1) := by decide +kernel
theorem dX0_inMillionths_6 : decode cX0_inMillionths 6 = .ok (.getfield 23, 3) := by decide +kernel
theorem dX0_inMillionths_9 : decode cX0_inMillionths 9 = .ok (.iload_n 1, 1) := by decide +kernel
theorem dX0_inMillionths_10 : decode cX0_inMillionths 10 = .ok (.invokevirtual 81, 3) := by decide +kernel
theorem dX0_inMillionths_13 : decode cX0_inMillionths 13 = .ok (.istore_n 2, 1) := by decide +kernel
theorem dX0_inMillionths_14 : decode cX0_inMillionths 14 = .ok (.aload_n 0, 1) := by decide +kernel
theorem dX0_inMillionths_15 : decode cX0_inMillionths 15 = .ok (.iload_n 2, 1) := by decide +kernel
theorem dX0_inMillionths_16 : decode cX0_inMillionths 16 = .ok (.iconst 0, 1) := by decide +kernel
theorem dX0_inMillionths_17 : decode cX0_inMillionths 17 = .ok (.invokevirtual 65, 3) := by decide +kernel
theorem dX0_inMillionths_20 : decode cX0_inMillionths 20 = .ok (.lstore_n 3, 1) := by decide +kernel
theorem dX0_inMillionths_21 : decode cX0_inMillionths 21 = .ok (.lload_n 3, 1) := by decide +kernel
theorem dX0_inMillionths_22 : decode cX0_inMillionths 22 = .ok (.lconst 0, 1) := by decide +kernel
theorem dX0_inMillionths_23 : decode cX0_inMillionths 23 = .ok (.lcmp, 1) := by decide +kernel
theorem dX0_inMillionths_24 : decode cX0_inMillionths 24 = .ok (.ifCond .le 21, 3) := by decide +kernel
theorem dX0_inMillionths_27 : decode cX0_inMillionths 27 = .ok (.aload_n 0, 1) := by decide +kernel
theorem dX0_inMillionths_28 : decode cX0_inMillionths 28 = .ok (.getfield 14, 3) := by decide +kernel
theorem dX0_inMillionths_31 : decode cX0_inMillionths 31 = .ok (.iload_n 2, 1) := by decide +kernel
theorem dX0_inMillionths_32 : decode cX0_inMillionths 32 = .ok (.iconst 0, 1) := by decide +kernel
theorem dX0_inMillionths_33 : decode cX0_inMillionths 33 = .ok (.invokevirtual 75, 3) := by decide +kernel
theorem dX0_inMillionths_36 : decode cX0_inMillionths 36 = .ok (.ldc2_w 84, 3) := by decide +kernel
theorem dX0_inMillionths_39 : decode cX0_inMillionths 39 = .ok (.lmul, 1) := by decide +kernel
theorem dX0_inMillionths_40 : decode cX0_inMillionths 40 = .ok (.lload_n 3, 1) := by decide +kernel
theorem dX0_inMillionths_41 : decode cX0_inMillionths 41 = .ok (.ldiv, 1) := by decide +kernel
theorem dX0_inMillionths_42 : decode cX0_inMillionths 42 = .ok (.goto 4, 3) := by decide +kernel
theorem dX0_inMillionths_45 : decode cX0_inMillionths 45 = .ok (.lconst 0, 1) := by decide +kernel
theorem dX0_inMillionths_46 : decode cX0_inMillionths 46 = .ok (.lreturn, 1) := by decide +kernel
set_option maxRecDepth 20000 in
theorem ggX0_weightAt_X1_at : GoodIn wsX0_weightAt wsX1_at := goodIn_r _ [6, 7, 8, 9, 10, 11, 5, 12, 18, 19] (by decide +kernel) (by decide +kernel)
set_option maxRecDepth 20000 in
theorem gX0_weightAt_X1_at : GoodIn wsX0_weightAt (wsV RX0 75 RX1 yX1_at wsX1_at) := goodIn_app (goodIn_of _ (by decide +kernel)) ggX0_weightAt_X1_at
theorem dX0_weightAt_0 : decode cX0_weightAt 0 = .ok (.aload_n 0, 1) := by decide +kernel
theorem dX0_weightAt_1 : decode cX0_weightAt 1 = .ok (.getfield 14, 3) := by decide +kernel
theorem dX0_weightAt_4 : decode cX0_weightAt 4 = .ok (.iload_n 1, 1) := by decide +kernel
theorem dX0_weightAt_5 : decode cX0_weightAt 5 = .ok (.iconst 1, 1) := by decide +kernel
theorem dX0_weightAt_6 : decode cX0_weightAt 6 = .ok (.iadd, 1) := by decide +kernel
theorem dX0_weightAt_7 : decode cX0_weightAt 7 = .ok (.iload_n 2, 1) := by decide +kernel
theorem dX0_weightAt_8 : decode cX0_weightAt 8 = .ok (.invokevirtual 75, 3) := by decide +kernel
theorem dX0_weightAt_11 : decode cX0_weightAt 11 = .ok (.aload_n 0, 1) := by decide +kernel
theorem dX0_weightAt_12 : decode cX0_weightAt 12 = .ok (.getfield 14, 3) := by decide +kernel
theorem dX0_weightAt_15 : decode cX0_weightAt 15 = .ok (.iload_n 1, 1) := by decide +kernel
theorem dX0_weightAt_16 : decode cX0_weightAt 16 = .ok (.iload_n 2, 1) := by decide +kernel
theorem dX0_weightAt_17 : decode cX0_weightAt 17 = .ok (.iconst 1, 1) := by decide +kernel
theorem dX0_weightAt_18 : decode cX0_weightAt 18 = .ok (.iadd, 1) := by decide +kernel
theorem dX0_weightAt_19 : decode cX0_weightAt 19 = .ok (.invokevirtual 75, 3) := by decide +kernel
theorem dX0_weightAt_22 : decode cX0_weightAt 22 = .ok (.lsub, 1) := by decide +kernel
theorem dX0_weightAt_23 : decode cX0_weightAt 23 = .ok (.lreturn, 1) := by decide +kernel
set_option maxRecDepth 20000 in
theorem ggX0_heaviestScore_X0_weightAt : GoodIn wsX0_heaviestScore wsX0_weightAt := goodIn_r _ [9, 10, 11, 12, 13, 14, 15, 16, 17, 18, 19, 20, 21, 41, 42, 43, 44, 45, 53, 54] (by decide +kernel) (by decide +kernel)
set_option maxRecDepth 20000 in
theorem gX0_heaviestScore_X0_weightAt : GoodIn wsX0_heaviestScore (wsV RX0 88 RX0 yX0_weightAt wsX0_weightAt) := goodIn_app (goodIn_of _ (by decide +kernel)) ggX0_heaviestScore_X0_weightAt
set_option maxRecDepth 20000 in
theorem ggX0_heaviestScore_X0_tens : GoodIn wsX0_heaviestScore wsX0_tens := goodIn_r _ [24] (by decide +kernel) (by decide +kernel)
set_option maxRecDepth 20000 in
theorem gX0_heaviestScore_X0_tens : GoodIn wsX0_heaviestScore (va_wsS RX0 40 yX0_tens wsX0_tens) := goodIn_app (goodIn_of _ (by decide +kernel)) ggX0_heaviestScore_X0_tens
set_option maxRecDepth 20000 in
theorem ggX0_heaviestScore_X5_gameWinner : GoodIn wsX0_heaviestScore wsX5_gameWinner := goodIn_r _ [29, 30, 31, 32, 33, 34, 35, 36, 37, 38, 39, 28, 40, 46, 47, 48, 49, 50, 51, 52] (by decide +kernel) (by decide +kernel)
set_option maxRecDepth 20000 in
theorem gX0_heaviestScore_X5_gameWinner : GoodIn wsX0_heaviestScore (wsV RX0 61 RX5 yX5_gameWinner wsX5_gameWinner) := goodIn_app (goodIn_of _ (by decide +kernel)) ggX0_heaviestScore_X5_gameWinner
theorem dX0_heaviestScore_0 : decode cX0_heaviestScore 0 = .ok (.iconst 0, 1) := by decide +kernel
theorem dX0_heaviestScore_1 : decode cX0_heaviestScore 1 = .ok (.istore_n 2, 1) := by decide +kernel
theorem dX0_heaviestScore_2 : decode cX0_heaviestScore 2 = .ok (.ldc2_w 86, 3) := by decide +kernel
theorem dX0_heaviestScore_5 : decode cX0_heaviestScore 5 = .ok (.lstore_n 3, 1) := by decide +kernel
theorem dX0_heaviestScore_6 : decode cX0_heaviestScore 6 = .ok (.iconst 0, 1) := by decide +kernel
theorem dX0_heaviestScore_7 : decode cX0_heaviestScore 7 = .ok (.istore 5, 2) := by decide +kernel
theorem dX0_heaviestScore_9 : decode cX0_heaviestScore 9 = .ok (.iload 5, 2) := by decide +kernel
theorem dX0_heaviestScore_11 : decode cX0_heaviestScore 11 = .ok (.aload_n 0, 1) := by decide +kernel
theorem dX0_heaviestScore_12 : decode cX0_heaviestScore 12 = .ok (.getfield 33, 3) := by decide +kernel
theorem dX0_heaviestScore_15 : decode cX0_heaviestScore 15 = .ok (.if_icmp .ge 101, 3) := by decide +kernel
theorem dX0_heaviestScore_18 : decode cX0_heaviestScore 18 = .ok (.iconst 0, 1) := by decide +kernel
theorem dX0_heaviestScore_19 : decode cX0_heaviestScore 19 = .ok (.istore 6, 2) := by decide +kernel
theorem dX0_heaviestScore_21 : decode cX0_heaviestScore 21 = .ok (.iload 6, 2) := by decide +kernel
theorem dX0_heaviestScore_23 : decode cX0_heaviestScore 23 = .ok (.aload_n 0, 1) := by decide +kernel
theorem dX0_heaviestScore_24 : decode cX0_heaviestScore 24 = .ok (.getfield 33, 3) := by decide +kernel
theorem dX0_heaviestScore_27 : decode cX0_heaviestScore 27 = .ok (.if_icmp .ge 83, 3) := by decide +kernel
theorem dX0_heaviestScore_30 : decode cX0_heaviestScore 30 = .ok (.aload_n 0, 1) := by decide +kernel
theorem dX0_heaviestScore_31 : decode cX0_heaviestScore 31 = .ok (.iload 5, 2) := by decide +kernel
theorem dX0_heaviestScore_33 : decode cX0_heaviestScore 33 = .ok (.iload 6, 2) := by decide +kernel
theorem dX0_heaviestScore_35 : decode cX0_heaviestScore 35 = .ok (.invokevirtual 88, 3) := by decide +kernel
theorem dX0_heaviestScore_38 : decode cX0_heaviestScore 38 = .ok (.iload 5, 2) := by decide +kernel
theorem dX0_heaviestScore_40 : decode cX0_heaviestScore 40 = .ok (.iload 6, 2) := by decide +kernel
theorem dX0_heaviestScore_42 : decode cX0_heaviestScore 42 = .ok (.iadd, 1) := by decide +kernel
theorem dX0_heaviestScore_43 : decode cX0_heaviestScore 43 = .ok (.invokestatic 40, 3) := by decide +kernel
theorem dX0_heaviestScore_46 : decode cX0_heaviestScore 46 = .ok (.lmul, 1) := by decide +kernel
theorem dX0_heaviestScore_47 : decode cX0_heaviestScore 47 = .ok (.lstore 7, 2) := by decide +kernel
theorem dX0_heaviestScore_49 : decode cX0_heaviestScore 49 = .ok (.aload_n 0, 1) := by decide +kernel
theorem dX0_heaviestScore_50 : decode cX0_heaviestScore 50 = .ok (.getfield 23, 3) := by decide +kernel
theorem dX0_heaviestScore_53 : decode cX0_heaviestScore 53 = .ok (.aload_n 0, 1) := by decide +kernel
theorem dX0_heaviestScore_54 : decode cX0_heaviestScore 54 = .ok (.getfield 23, 3) := by decide +kernel
theorem dX0_heaviestScore_57 : decode cX0_heaviestScore 57 = .ok (.getfield 48, 3) := by decide +kernel
theorem dX0_heaviestScore_60 : decode cX0_heaviestScore 60 = .ok (.iload 5, 2) := by decide +kernel
theorem dX0_heaviestScore_62 : decode cX0_heaviestScore 62 = .ok (.iload 6, 2) := by decide +kernel
theorem dX0_heaviestScore_64 : decode cX0_heaviestScore 64 = .ok (.invokevirtual 61, 3) := by decide +kernel
theorem dX0_heaviestScore_67 : decode cX0_heaviestScore 67 = .ok (.ifCond .ne 7, 3) := by decide +kernel
theorem dX0_heaviestScore_70 : decode cX0_heaviestScore 70 = .ok (.iconst 1, 1) := by decide +kernel
theorem dX0_heaviestScore_71 : decode cX0_heaviestScore 71 = .ok (.goto 4, 3) := by decide +kernel
theorem dX0_heaviestScore_74 : decode cX0_heaviestScore 74 = .ok (.iconst 0, 1) := by decide +kernel
theorem dX0_heaviestScore_75 : decode cX0_heaviestScore 75 = .ok (.istore 9, 2) := by decide +kernel
theorem dX0_heaviestScore_77 : decode cX0_heaviestScore 77 = .ok (.iload 9, 2) := by decide +kernel
theorem dX0_heaviestScore_79 : decode cX0_heaviestScore 79 = .ok (.ifCond .eq 25, 3) := by decide +kernel
theorem dX0_heaviestScore_82 : decode cX0_heaviestScore 82 = .ok (.lload 7, 2) := by decide +kernel
theorem dX0_heaviestScore_84 : decode cX0_heaviestScore 84 = .ok (.lload_n 3, 1) := by decide +kernel
theorem dX0_heaviestScore_85 : decode cX0_heaviestScore 85 = .ok (.lcmp, 1) := by decide +kernel
theorem dX0_heaviestScore_86 : decode cX0_heaviestScore 86 = .ok (.ifCond .le 18, 3) := by decide +kernel
theorem dX0_heaviestScore_89 : decode cX0_heaviestScore 89 = .ok (.lload 7, 2) := by decide +kernel
theorem dX0_heaviestScore_91 : decode cX0_heaviestScore 91 = .ok (.lstore_n 3, 1) := by decide +kernel
theorem dX0_heaviestScore_92 : decode cX0_heaviestScore 92 = .ok (.iload_n 1, 1) := by decide +kernel
theorem dX0_heaviestScore_93 : decode cX0_heaviestScore 93 = .ok (.ifCond .ne 8, 3) := by decide +kernel
theorem dX0_heaviestScore_96 : decode cX0_heaviestScore 96 = .ok (.iload 5, 2) := by decide +kernel
theorem dX0_heaviestScore_98 : decode cX0_heaviestScore 98 = .ok (.goto 5, 3) := by decide +kernel
theorem dX0_heaviestScore_101 : decode cX0_heaviestScore 101 = .ok (.iload 6, 2) := by decide +kernel
theorem dX0_heaviestScore_103 : decode cX0_heaviestScore 103 = .ok (.istore_n 2, 1) := by decide +kernel
theorem dX0_heaviestScore_104 : decode cX0_heaviestScore 104 = .ok (.iinc 6 1, 3) := by decide +kernel
theorem dX0_heaviestScore_107 : decode cX0_heaviestScore 107 = .ok (.goto (-86), 3) := by decide +kernel
theorem dX0_heaviestScore_110 : decode cX0_heaviestScore 110 = .ok (.iinc 5 1, 3) := by decide +kernel
theorem dX0_heaviestScore_113 : decode cX0_heaviestScore 113 = .ok (.goto (-104), 3) := by decide +kernel
theorem dX0_heaviestScore_116 : decode cX0_heaviestScore 116 = .ok (.iload_n 2, 1) := by decide +kernel
theorem dX0_heaviestScore_117 : decode cX0_heaviestScore 117 = .ok (.ireturn, 1) := by decide +kernel
theorem dX0_tens_0 : decode cX0_tens 0 = .ok (.iconst 0, 1) := by decide +kernel
theorem dX0_tens_1 : decode cX0_tens 1 = .ok (.iload_n 0, 1) := by decide +kernel
theorem dX0_tens_2 : decode cX0_tens 2 = .ok (.if_icmp .gt 19, 3) := by decide +kernel
theorem dX0_tens_5 : decode cX0_tens 5 = .ok (.iload_n 0, 1) := by decide +kernel
theorem dX0_tens_6 : decode cX0_tens 6 = .ok (.getstatic 91, 3) := by decide +kernel
theorem dX0_tens_9 : decode cX0_tens 9 = .ok (.arraylength, 1) := by decide +kernel
theorem dX0_tens_10 : decode cX0_tens 10 = .ok (.if_icmp .ge 11, 3) := by decide +kernel
theorem dX0_tens_13 : decode cX0_tens 13 = .ok (.getstatic 91, 3) := by decide +kernel
theorem dX0_tens_16 : decode cX0_tens 16 = .ok (.iload_n 0, 1) := by decide +kernel
theorem dX0_tens_17 : decode cX0_tens 17 = .ok (.laload, 1) := by decide +kernel
theorem dX0_tens_18 : decode cX0_tens 18 = .ok (.goto 4, 3) := by decide +kernel
theorem dX0_tens_21 : decode cX0_tens 21 = .ok (.lconst 1, 1) := by decide +kernel
theorem dX0_tens_22 : decode cX0_tens 22 = .ok (.lreturn, 1) := by decide +kernel
theorem dX1_init_0 : decode cX1_init 0 = .ok (.aload_n 0, 1) := by decide +kernel
theorem dX1_init_1 : decode cX1_init 1 = .ok (.invokespecial 1, 3) := by decide +kernel
theorem dX1_init_4 : decode cX1_init 4 = .ok (.aload_n 0, 1) := by decide +kernel
theorem dX1_init_5 : decode cX1_init 5 = .ok (.iconst 0, 1) := by decide +kernel
theorem dX1_init_6 : decode cX1_init 6 = .ok (.iload_n 1, 1) := by decide +kernel
theorem dX1_init_7 : decode cX1_init 7 = .ok (.invokestatic 7, 3) := by decide +kernel
theorem dX1_init_10 : decode cX1_init 10 = .ok (.iconst 1, 1) := by decide +kernel
theorem dX1_init_11 : decode cX1_init 11 = .ok (.iadd, 1) := by decide +kernel
theorem dX1_init_12 : decode cX1_init 12 = .ok (.putfield 13, 3) := by decide +kernel
theorem dX1_init_15 : decode cX1_init 15 = .ok (.aload_n 0, 1) := by decide +kernel
theorem dX1_init_16 : decode cX1_init 16 = .ok (.aload_n 0, 1) := by decide +kernel
theorem dX1_init_17 : decode cX1_init 17 = .ok (.getfield 13, 3) := by decide +kernel
theorem dX1_init_20 : decode cX1_init 20 = .ok (.aload_n 0, 1) := by decide +kernel
theorem dX1_init_21 : decode cX1_init 21 = .ok (.getfield 13, 3) := by decide +kernel
theorem dX1_init_24 : decode cX1_init 24 = .ok (.imul, 1) := by decide +kernel
theorem dX1_init_25 : decode cX1_init 25 = .ok (.newarray .long, 2) := by decide +kernel
theorem dX1_init_27 : decode cX1_init 27 = .ok (.putfield 19, 3) := by decide +kernel
theorem dX1_init_30 : decode cX1_init 30 = .ok (.return_, 1) := by decide +kernel
set_option maxRecDepth 20000 in
theorem ggX1_at_X1_holds : GoodIn wsX1_at wsX1_holds := goodIn_r _ [7, 2, 8, 9] (by decide +kernel) (by decide +kernel)
set_option maxRecDepth 20000 in
theorem gX1_at_X1_holds : GoodIn wsX1_at (wsV RX1 23 RX1 yX1_holds wsX1_holds) := goodIn_app (goodIn_of _ (by decide +kernel)) ggX1_at_X1_holds
theorem dX1_at_0 : decode cX1_at 0 = .ok (.aload_n 0, 1) := by decide +kernel
theorem dX1_at_1 : decode cX1_at 1 = .ok (.iload_n 1, 1) := by decide +kernel
theorem dX1_at_2 : decode cX1_at 2 = .ok (.iload_n 2, 1) := by decide +kernel
theorem dX1_at_3 : decode cX1_at 3 = .ok (.invokevirtual 23, 3) := by decide +kernel
theorem dX1_at_6 : decode cX1_at 6 = .ok (.ifCond .eq 19, 3) := by decide +kernel
theorem dX1_at_9 : decode cX1_at 9 = .ok (.aload_n 0, 1) := by decide +kernel
theorem dX1_at_10 : decode cX1_at 10 = .ok (.getfield 19, 3) := by decide +kernel
theorem dX1_at_13 : decode cX1_at 13 = .ok (.iload_n 1, 1) := by decide +kernel
theorem dX1_at_14 : decode cX1_at 14 = .ok (.aload_n 0, 1) := by decide +kernel
theorem dX1_at_15 : decode cX1_at 15 = .ok (.getfield 13, 3) := by decide +kernel
theorem dX1_at_18 : decode cX1_at 18 = .ok (.imul, 1) := by decide +kernel
theorem dX1_at_19 : decode cX1_at 19 = .ok (.iload_n 2, 1) := by decide +kernel
theorem dX1_at_20 : decode cX1_at 20 = .ok (.iadd, 1) := by decide +kernel
theorem dX1_at_21 : decode cX1_at 21 = .ok (.laload, 1) := by decide +kernel
theorem dX1_at_22 : decode cX1_at 22 = .ok (.goto 4, 3) := by decide +kernel
theorem dX1_at_25 : decode cX1_at 25 = .ok (.lconst 0, 1) := by decide +kernel
theorem dX1_at_26 : decode cX1_at 26 = .ok (.lreturn, 1) := by decide +kernel
set_option maxRecDepth 20000 in
theorem ggX1_put_X1_holds : GoodIn wsX1_put wsX1_holds := goodIn_r _ [7, 2, 8, 9] (by decide +kernel) (by decide +kernel)
set_option maxRecDepth 20000 in
theorem gX1_put_X1_holds : GoodIn wsX1_put (wsV RX1 23 RX1 yX1_holds wsX1_holds) := goodIn_app (goodIn_of _ (by decide +kernel)) ggX1_put_X1_holds
theorem dX1_put_0 : decode cX1_put 0 = .ok (.aload_n 0, 1) := by decide +kernel
theorem dX1_put_1 : decode cX1_put 1 = .ok (.iload_n 1, 1) := by decide +kernel
theorem dX1_put_2 : decode cX1_put 2 = .ok (.iload_n 2, 1) := by decide +kernel
theorem dX1_put_3 : decode cX1_put 3 = .ok (.invokevirtual 23, 3) := by decide +kernel
theorem dX1_put_6 : decode cX1_put 6 = .ok (.ifCond .eq 17, 3) := by decide +kernel
theorem dX1_put_9 : decode cX1_put 9 = .ok (.aload_n 0, 1) := by decide +kernel
theorem dX1_put_10 : decode cX1_put 10 = .ok (.getfield 19, 3) := by decide +kernel
theorem dX1_put_13 : decode cX1_put 13 = .ok (.iload_n 1, 1) := by decide +kernel
theorem dX1_put_14 : decode cX1_put 14 = .ok (.aload_n 0, 1) := by decide +kernel
theorem dX1_put_15 : decode cX1_put 15 = .ok (.getfield 13, 3) := by decide +kernel
theorem dX1_put_18 : decode cX1_put 18 = .ok (.imul, 1) := by decide +kernel
theorem dX1_put_19 : decode cX1_put 19 = .ok (.iload_n 2, 1) := by decide +kernel
theorem dX1_put_20 : decode cX1_put 20 = .ok (.iadd, 1) := by decide +kernel
theorem dX1_put_21 : decode cX1_put 21 = .ok (.lload_n 3, 1) := by decide +kernel
theorem dX1_put_22 : decode cX1_put 22 = .ok (.lastore, 1) := by decide +kernel
theorem dX1_put_23 : decode cX1_put 23 = .ok (.return_, 1) := by decide +kernel
theorem dX1_holds_0 : decode cX1_holds 0 = .ok (.iconst 0, 1) := by decide +kernel
theorem dX1_holds_1 : decode cX1_holds 1 = .ok (.iload_n 1, 1) := by decide +kernel
theorem dX1_holds_2 : decode cX1_holds 2 = .ok (.if_icmp .gt 28, 3) := by decide +kernel
theorem dX1_holds_5 : decode cX1_holds 5 = .ok (.iload_n 1, 1) := by decide +kernel
theorem dX1_holds_6 : decode cX1_holds 6 = .ok (.aload_n 0, 1) := by decide +kernel
theorem dX1_holds_7 : decode cX1_holds 7 = .ok (.getfield 13, 3) := by decide +kernel
theorem dX1_holds_10 : decode cX1_holds 10 = .ok (.if_icmp .ge 20, 3) := by decide +kernel
theorem dX1_holds_13 : decode cX1_holds 13 = .ok (.iconst 0, 1) := by decide +kernel
theorem dX1_holds_14 : decode cX1_holds 14 = .ok (.iload_n 2, 1) := by decide +kernel
theorem dX1_holds_15 : decode cX1_holds 15 = .ok (.if_icmp .gt 15, 3) := by decide +kernel
theorem dX1_holds_18 : decode cX1_holds 18 = .ok (.iload_n 2, 1) := by decide +kernel
theorem dX1_holds_19 : decode cX1_holds 19 = .ok (.aload_n 0, 1) := by decide +kernel
theorem dX1_holds_20 : decode cX1_holds 20 = .ok (.getfield 13, 3) := by decide +kernel
theorem dX1_holds_23 : decode cX1_holds 23 = .ok (.if_icmp .ge 7, 3) := by decide +kernel
theorem dX1_holds_26 : decode cX1_holds 26 = .ok (.iconst 1, 1) := by decide +kernel
theorem dX1_holds_27 : decode cX1_holds 27 = .ok (.goto 4, 3) := by decide +kernel
theorem dX1_holds_30 : decode cX1_holds 30 = .ok (.iconst 0, 1) := by decide +kernel
theorem dX1_holds_31 : decode cX1_holds 31 = .ok (.ireturn, 1) := by decide +kernel
set_option maxRecDepth 20000 in
theorem ggX2_init_X1_init : GoodIn wsX2_init wsX1_init := goodIn_r _ [12, 13, 2, 3, 14, 15, 16, 17, 18, 19, 20, 21, 22] (by decide +kernel) (by decide +kernel)
set_option maxRecDepth 20000 in
theorem gX2_init_X1_init : GoodIn wsX2_init (wsX1_init) := ggX2_init_X1_init
theorem dX2_init_0 : decode cX2_init 0 = .ok (.aload_n 0, 1) := by decide +kernel
theorem dX2_init_1 : decode cX2_init 1 = .ok (.invokespecial 3, 3) := by decide +kernel
theorem dX2_init_4 : decode cX2_init 4 = .ok (.aload_n 0, 1) := by decide +kernel
theorem dX2_init_5 : decode cX2_init 5 = .ok (.new 9, 3) := by decide +kernel
theorem dX2_init_8 : decode cX2_init 8 = .ok (.dup, 1) := by decide +kernel
theorem dX2_init_9 : decode cX2_init 9 = .ok (.bipush 7, 2) := by decide +kernel
theorem dX2_init_11 : decode cX2_init 11 = .ok (.invokespecial 11, 3) := by decide +kernel
theorem dX2_init_14 : decode cX2_init 14 = .ok (.putfield 14, 3) := by decide +kernel
theorem dX2_init_17 : decode cX2_init 17 = .ok (.aload_n 0, 1) := by decide +kernel
theorem dX2_init_18 : decode cX2_init 18 = .ok (.new 9, 3) := by decide +kernel
theorem dX2_init_21 : decode cX2_init 21 = .ok (.dup, 1) := by decide +kernel
theorem dX2_init_22 : decode cX2_init 22 = .ok (.iconst 3, 1) := by decide +kernel
theorem dX2_init_23 : decode cX2_init 23 = .ok (.invokespecial 11, 3) := by decide +kernel
theorem dX2_init_26 : decode cX2_init 26 = .ok (.putfield 20, 3) := by decide +kernel
theorem dX2_init_29 : decode cX2_init 29 = .ok (.aload_n 0, 1) := by decide +kernel
theorem dX2_init_30 : decode cX2_init 30 = .ok (.aload_n 1, 1) := by decide +kernel
theorem dX2_init_31 : decode cX2_init 31 = .ok (.putfield 23, 3) := by decide +kernel
theorem dX2_init_34 : decode cX2_init 34 = .ok (.return_, 1) := by decide +kernel
set_option maxRecDepth 20000 in
theorem ggX2_ofSet_X5_setWinner : GoodIn wsX2_ofSet wsX5_setWinner := goodIn_r _ [9, 10, 11, 12, 13, 14, 15, 16, 17, 18, 19, 8, 20, 44, 45, 46, 47, 48, 49, 50] (by decide +kernel) (by decide +kernel)
set_option maxRecDepth 20000 in
theorem gX2_ofSet_X5_setWinner : GoodIn wsX2_ofSet (wsV RX2 35 RX5 yX5_setWinner wsX5_setWinner) := goodIn_app (goodIn_of _ (by decide +kernel)) ggX2_ofSet_X5_setWinner
set_option maxRecDepth 20000 in
theorem ggX2_ofSet_X2_ofScore : GoodIn wsX2_ofSet wsX2_ofScore := goodIn_r _ [24, 25, 26, 27, 28, 29, 30, 31, 32, 33, 34, 35, 36, 51, 52] (by decide +kernel) (by decide +kernel)
set_option maxRecDepth 20000 in
theorem gX2_ofSet_X2_ofScore : GoodIn wsX2_ofSet (va_wsS RX2 39 yX2_ofScore wsX2_ofScore) := goodIn_app (goodIn_of _ (by decide +kernel)) ggX2_ofSet_X2_ofScore
set_option maxRecDepth 20000 in
theorem ggX2_ofSet_X1_put : GoodIn wsX2_ofSet wsX1_put := goodIn_r _ [40, 31, 32, 33, 34, 35, 29, 36, 51, 52] (by decide +kernel) (by decide +kernel)
set_option maxRecDepth 20000 in
theorem gX2_ofSet_X1_put : GoodIn wsX2_ofSet (wsV RX2 43 RX1 yX1_put wsX1_put) := goodIn_app (goodIn_of _ (by decide +kernel)) ggX2_ofSet_X1_put
set_option maxRecDepth 20000 in
theorem ggX2_ofSet_X1_at : GoodIn wsX2_ofSet wsX1_at := goodIn_r _ [30, 31, 32, 33, 34, 35, 29, 36, 51, 52] (by decide +kernel) (by decide +kernel)
set_option maxRecDepth 20000 in
theorem gX2_ofSet_X1_at : GoodIn wsX2_ofSet (wsV RX2 47 RX1 yX1_at wsX1_at) := goodIn_app (goodIn_of _ (by decide +kernel)) ggX2_ofSet_X1_at
theorem dX2_ofSet_0 : decode cX2_ofSet 0 = .ok (.aload_n 0, 1) := by decide +kernel
theorem dX2_ofSet_1 : decode cX2_ofSet 1 = .ok (.getfield 23, 3) := by decide +kernel
theorem dX2_ofSet_4 : decode cX2_ofSet 4 = .ok (.getfield 27, 3) := by decide +kernel
theorem dX2_ofSet_7 : decode cX2_ofSet 7 = .ok (.istore 8, 2) := by decide +kernel
theorem dX2_ofSet_9 : decode cX2_ofSet 9 = .ok (.iload 8, 2) := by decide +kernel
theorem dX2_ofSet_11 : decode cX2_ofSet 11 = .ok (.iconst 1, 1) := by decide +kernel
theorem dX2_ofSet_12 : decode cX2_ofSet 12 = .ok (.iadd, 1) := by decide +kernel
theorem dX2_ofSet_13 : decode cX2_ofSet 13 = .ok (.istore 9, 2) := by decide +kernel
theorem dX2_ofSet_15 : decode cX2_ofSet 15 = .ok (.iload 9, 2) := by decide +kernel
theorem dX2_ofSet_17 : decode cX2_ofSet 17 = .ok (.iload_n 1, 1) := by decide +kernel
theorem dX2_ofSet_18 : decode cX2_ofSet 18 = .ok (.if_icmp .lt 124, 3) := by decide +kernel
theorem dX2_ofSet_21 : decode cX2_ofSet 21 = .ok (.iload 8, 2) := by decide +kernel
theorem dX2_ofSet_23 : decode cX2_ofSet 23 = .ok (.iconst 1, 1) := by decide +kernel
theorem dX2_ofSet_24 : decode cX2_ofSet 24 = .ok (.iadd, 1) := by decide +kernel
theorem dX2_ofSet_25 : decode cX2_ofSet 25 = .ok (.istore 10, 2) := by decide +kernel
theorem dX2_ofSet_27 : decode cX2_ofSet 27 = .ok (.iload 10, 2) := by decide +kernel
theorem dX2_ofSet_29 : decode cX2_ofSet 29 = .ok (.iload_n 2, 1) := by decide +kernel
theorem dX2_ofSet_30 : decode cX2_ofSet 30 = .ok (.if_icmp .lt 106, 3) := by decide +kernel
theorem dX2_ofSet_33 : decode cX2_ofSet 33 = .ok (.iload_n 3, 1) := by decide +kernel
theorem dX2_ofSet_34 : decode cX2_ofSet 34 = .ok (.iload 9, 2) := by decide +kernel
theorem dX2_ofSet_36 : decode cX2_ofSet 36 = .ok (.iadd, 1) := by decide +kernel
theorem dX2_ofSet_37 : decode cX2_ofSet 37 = .ok (.iload_n 1, 1) := by decide +kernel
theorem dX2_ofSet_38 : decode cX2_ofSet 38 = .ok (.isub, 1) := by decide +kernel
theorem dX2_ofSet_39 : decode cX2_ofSet 39 = .ok (.iload 10, 2) := by decide +kernel
theorem dX2_ofSet_41 : decode cX2_ofSet 41 = .ok (.iadd, 1) := by decide +kernel
theorem dX2_ofSet_42 : decode cX2_ofSet 42 = .ok (.iload_n 2, 1) := by decide +kernel
theorem dX2_ofSet_43 : decode cX2_ofSet 43 = .ok (.isub, 1) := by decide +kernel
theorem dX2_ofSet_44 : decode cX2_ofSet 44 = .ok (.iconst 2, 1) := by decide +kernel
theorem dX2_ofSet_45 : decode cX2_ofSet 45 = .ok (.irem, 1) := by decide +kernel
theorem dX2_ofSet_46 : decode cX2_ofSet 46 = .ok (.ifCond .ne 7, 3) := by decide +kernel
theorem dX2_ofSet_49 : decode cX2_ofSet 49 = .ok (.iconst 1, 1) := by decide +kernel
theorem dX2_ofSet_50 : decode cX2_ofSet 50 = .ok (.goto 4, 3) := by decide +kernel
theorem dX2_ofSet_53 : decode cX2_ofSet 53 = .ok (.iconst 0, 1) := by decide +kernel
theorem dX2_ofSet_54 : decode cX2_ofSet 54 = .ok (.istore 11, 2) := by decide +kernel
theorem dX2_ofSet_56 : decode cX2_ofSet 56 = .ok (.iload 11, 2) := by decide +kernel
theorem dX2_ofSet_58 : decode cX2_ofSet 58 = .ok (.ifCond .eq 8, 3) := by decide +kernel
theorem dX2_ofSet_61 : decode cX2_ofSet 61 = .ok (.lload 4, 2) := by decide +kernel
theorem dX2_ofSet_63 : decode cX2_ofSet 63 = .ok (.goto 5, 3) := by decide +kernel
theorem dX2_ofSet_66 : decode cX2_ofSet 66 = .ok (.lload 6, 2) := by decide +kernel
theorem dX2_ofSet_68 : decode cX2_ofSet 68 = .ok (.lstore 12, 2) := by decide +kernel
theorem dX2_ofSet_70 : decode cX2_ofSet 70 = .ok (.iload 9, 2) := by decide +kernel
theorem dX2_ofSet_72 : decode cX2_ofSet 72 = .ok (.iload 8, 2) := by decide +kernel
theorem dX2_ofSet_74 : decode cX2_ofSet 74 = .ok (.if_icmp .ne 21, 3) := by decide +kernel
theorem dX2_ofSet_77 : decode cX2_ofSet 77 = .ok (.iload 10, 2) := by decide +kernel
theorem dX2_ofSet_79 : decode cX2_ofSet 79 = .ok (.iload 8, 2) := by decide +kernel
theorem dX2_ofSet_81 : decode cX2_ofSet 81 = .ok (.if_icmp .ne 14, 3) := by decide +kernel
theorem dX2_ofSet_84 : decode cX2_ofSet 84 = .ok (.lload 4, 2) := by decide +kernel
theorem dX2_ofSet_86 : decode cX2_ofSet 86 = .ok (.lload 6, 2) := by decide +kernel
theorem dX2_ofSet_88 : decode cX2_ofSet 88 = .ok (.ladd, 1) := by decide +kernel
theorem dX2_ofSet_89 : decode cX2_ofSet 89 = .ok (.ldc2_w 33, 3) := by decide +kernel
theorem dX2_ofSet_92 : decode cX2_ofSet 92 = .ok (.ldiv, 1) := by decide +kernel
theorem dX2_ofSet_93 : decode cX2_ofSet 93 = .ok (.lstore 12, 2) := by decide +kernel
theorem dX2_ofSet_95 : decode cX2_ofSet 95 = .ok (.aload_n 0, 1) := by decide +kernel
theorem dX2_ofSet_96 : decode cX2_ofSet 96 = .ok (.getfield 14, 3) := by decide +kernel
theorem dX2_ofSet_99 : decode cX2_ofSet 99 = .ok (.iload 9, 2) := by decide +kernel
theorem dX2_ofSet_101 : decode cX2_ofSet 101 = .ok (.iload 10, 2) := by decide +kernel
theorem dX2_ofSet_103 : decode cX2_ofSet 103 = .ok (.aload_n 0, 1) := by decide +kernel
theorem dX2_ofSet_104 : decode cX2_ofSet 104 = .ok (.getfield 14, 3) := by decide +kernel
theorem dX2_ofSet_107 : decode cX2_ofSet 107 = .ok (.iload 9, 2) := by decide +kernel
theorem dX2_ofSet_109 : decode cX2_ofSet 109 = .ok (.iload 10, 2) := by decide +kernel
theorem dX2_ofSet_111 : decode cX2_ofSet 111 = .ok (.aload_n 0, 1) := by decide +kernel
theorem dX2_ofSet_112 : decode cX2_ofSet 112 = .ok (.getfield 23, 3) := by decide +kernel
theorem dX2_ofSet_115 : decode cX2_ofSet 115 = .ok (.iload 9, 2) := by decide +kernel
theorem dX2_ofSet_117 : decode cX2_ofSet 117 = .ok (.iload 10, 2) := by decide +kernel
theorem dX2_ofSet_119 : decode cX2_ofSet 119 = .ok (.invokevirtual 35, 3) := by decide +kernel
theorem dX2_ofSet_122 : decode cX2_ofSet 122 = .ok (.lload 12, 2) := by decide +kernel
theorem dX2_ofSet_124 : decode cX2_ofSet 124 = .ok (.invokestatic 39, 3) := by decide +kernel
theorem dX2_ofSet_127 : decode cX2_ofSet 127 = .ok (.invokevirtual 43, 3) := by decide +kernel
theorem dX2_ofSet_130 : decode cX2_ofSet 130 = .ok (.iinc 10 (-1), 3) := by decide +kernel
theorem dX2_ofSet_133 : decode cX2_ofSet 133 = .ok (.goto (-106), 3) := by decide +kernel
theorem dX2_ofSet_136 : decode cX2_ofSet 136 = .ok (.iinc 9 (-1), 3) := by decide +kernel
theorem dX2_ofSet_139 : decode cX2_ofSet 139 = .ok (.goto (-124), 3) := by decide +kernel
theorem dX2_ofSet_142 : decode cX2_ofSet 142 = .ok (.aload_n 0, 1) := by decide +kernel
theorem dX2_ofSet_143 : decode cX2_ofSet 143 = .ok (.getfield 14, 3) := by decide +kernel
theorem dX2_ofSet_146 : decode cX2_ofSet 146 = .ok (.iload_n 1, 1) := by decide +kernel
theorem dX2_ofSet_147 : decode cX2_ofSet 147 = .ok (.iload_n 2, 1) := by decide +kernel
theorem dX2_ofSet_148 : decode cX2_ofSet 148 = .ok (.invokevirtual 47, 3) := by decide +kernel
theorem dX2_ofSet_151 : decode cX2_ofSet 151 = .ok (.lreturn, 1) := by decide +kernel
set_option maxRecDepth 20000 in
theorem ggX2_ofMatch_X2_ofSet : GoodIn wsX2_ofMatch wsX2_ofSet := goodIn_r _ [8, 1, 9, 10, 11, 12, 13, 14, 15, 16, 17, 18, 19, 20, 21, 22, 23, 24, 25, 26, 27, 28, 29, 7, 30, 31, 32, 33, 34, 35, 36, 37, 38, 39, 40, 41, 42, 43, 44, 45, 46, 52, 53, 54, 55, 56, 57, 58, 59, 60, 61, 62, 63] (by decide +kernel) (by decide +kernel)
set_option maxRecDepth 20000 in
theorem gX2_ofMatch_X2_ofSet : GoodIn wsX2_ofMatch (wsV RX2 51 RX2 yX2_ofSet wsX2_ofSet) := goodIn_app (goodIn_of _ (by decide +kernel)) ggX2_ofMatch_X2_ofSet
set_option maxRecDepth 20000 in
theorem ggX2_ofMatch_X5_matchWinner : GoodIn wsX2_ofMatch wsX5_matchWinner := goodIn_r _ [50, 51, 25, 26, 15, 27, 55, 56, 57, 58, 59, 60, 61] (by decide +kernel) (by decide +kernel)
set_option maxRecDepth 20000 in
theorem gX2_ofMatch_X5_matchWinner : GoodIn wsX2_ofMatch (wsV RX2 58 RX5 yX5_matchWinner wsX5_matchWinner) := goodIn_app (goodIn_of _ (by decide +kernel)) ggX2_ofMatch_X5_matchWinner
set_option maxRecDepth 20000 in
theorem ggX2_ofMatch_X2_ofScore : GoodIn wsX2_ofMatch wsX2_ofScore := goodIn_r _ [30, 31, 32, 33, 34, 35, 36, 37, 38, 39, 40, 41, 42, 62, 63] (by decide +kernel) (by decide +kernel)
set_option maxRecDepth 20000 in
theorem gX2_ofMatch_X2_ofScore : GoodIn wsX2_ofMatch (va_wsS RX2 39 yX2_ofScore wsX2_ofScore) := goodIn_app (goodIn_of _ (by decide +kernel)) ggX2_ofMatch_X2_ofScore
set_option maxRecDepth 20000 in
theorem ggX2_ofMatch_X1_put : GoodIn wsX2_ofMatch wsX1_put := goodIn_r _ [46, 37, 38, 39, 40, 41, 35, 42, 62, 63] (by decide +kernel) (by decide +kernel)
set_option maxRecDepth 20000 in
theorem gX2_ofMatch_X1_put : GoodIn wsX2_ofMatch (wsV RX2 43 RX1 yX1_put wsX1_put) := goodIn_app (goodIn_of _ (by decide +kernel)) ggX2_ofMatch_X1_put
set_option maxRecDepth 20000 in
theorem ggX2_ofMatch_X1_at : GoodIn wsX2_ofMatch wsX1_at := goodIn_r _ [36, 37, 38, 39, 40, 41, 35, 42, 62, 63] (by decide +kernel) (by decide +kernel)
set_option maxRecDepth 20000 in
theorem gX2_ofMatch_X1_at : GoodIn wsX2_ofMatch (wsV RX2 47 RX1 yX1_at wsX1_at) := goodIn_app (goodIn_of _ (by decide +kernel)) ggX2_ofMatch_X1_at
theorem dX2_ofMatch_0 : decode cX2_ofMatch 0 = .ok (.aload_n 0, 1) := by decide +kernel
theorem dX2_ofMatch_1 : decode cX2_ofMatch 1 = .ok (.iconst 0, 1) := by decide +kernel
theorem dX2_ofMatch_2 : decode cX2_ofMatch 2 = .ok (.iconst 0, 1) := by decide +kernel
theorem dX2_ofMatch_3 : decode cX2_ofMatch 3 = .ok (.iconst 0, 1) := by decide +kernel
theorem dX2_ofMatch_4 : decode cX2_ofMatch 4 = .ok (.lload 4, 2) := by decide +kernel
theorem dX2_ofMatch_6 : decode cX2_ofMatch 6 = .ok (.lload 6, 2) := by decide +kernel
theorem dX2_ofMatch_8 : decode cX2_ofMatch 8 = .ok (.invokevirtual 51, 3) := by decide +kernel
theorem dX2_ofMatch_11 : decode cX2_ofMatch 11 = .ok (.lstore 8, 2) := by decide +kernel
theorem dX2_ofMatch_13 : decode cX2_ofMatch 13 = .ok (.aload_n 0, 1) := by decide +kernel
theorem dX2_ofMatch_14 : decode cX2_ofMatch 14 = .ok (.iconst 0, 1) := by decide +kernel
theorem dX2_ofMatch_15 : decode cX2_ofMatch 15 = .ok (.iconst 0, 1) := by decide +kernel
theorem dX2_ofMatch_16 : decode cX2_ofMatch 16 = .ok (.iconst 1, 1) := by decide +kernel
theorem dX2_ofMatch_17 : decode cX2_ofMatch 17 = .ok (.lload 4, 2) := by decide +kernel
theorem dX2_ofMatch_19 : decode cX2_ofMatch 19 = .ok (.lload 6, 2) := by decide +kernel
theorem dX2_ofMatch_21 : decode cX2_ofMatch 21 = .ok (.invokevirtual 51, 3) := by decide +kernel
theorem dX2_ofMatch_24 : decode cX2_ofMatch 24 = .ok (.lstore 10, 2) := by decide +kernel
theorem dX2_ofMatch_26 : decode cX2_ofMatch 26 = .ok (.aload_n 0, 1) := by decide +kernel
theorem dX2_ofMatch_27 : decode cX2_ofMatch 27 = .ok (.getfield 23, 3) := by decide +kernel
theorem dX2_ofMatch_30 : decode cX2_ofMatch 30 = .ok (.getfield 55, 3) := by decide +kernel
theorem dX2_ofMatch_33 : decode cX2_ofMatch 33 = .ok (.istore 12, 2) := by decide +kernel
theorem dX2_ofMatch_35 : decode cX2_ofMatch 35 = .ok (.iload 12, 2) := by decide +kernel
theorem dX2_ofMatch_37 : decode cX2_ofMatch 37 = .ok (.iload_n 1, 1) := by decide +kernel
theorem dX2_ofMatch_38 : decode cX2_ofMatch 38 = .ok (.if_icmp .lt 102, 3) := by decide +kernel
theorem dX2_ofMatch_41 : decode cX2_ofMatch 41 = .ok (.aload_n 0, 1) := by decide +kernel
theorem dX2_ofMatch_42 : decode cX2_ofMatch 42 = .ok (.getfield 23, 3) := by decide +kernel
theorem dX2_ofMatch_45 : decode cX2_ofMatch 45 = .ok (.getfield 55, 3) := by decide +kernel
theorem dX2_ofMatch_48 : decode cX2_ofMatch 48 = .ok (.istore 13, 2) := by decide +kernel
theorem dX2_ofMatch_50 : decode cX2_ofMatch 50 = .ok (.iload 13, 2) := by decide +kernel
theorem dX2_ofMatch_52 : decode cX2_ofMatch 52 = .ok (.iload_n 2, 1) := by decide +kernel
theorem dX2_ofMatch_53 : decode cX2_ofMatch 53 = .ok (.if_icmp .lt 81, 3) := by decide +kernel
theorem dX2_ofMatch_56 : decode cX2_ofMatch 56 = .ok (.iload_n 3, 1) := by decide +kernel
theorem dX2_ofMatch_57 : decode cX2_ofMatch 57 = .ok (.iload 12, 2) := by decide +kernel
theorem dX2_ofMatch_59 : decode cX2_ofMatch 59 = .ok (.iadd, 1) := by decide +kernel
theorem dX2_ofMatch_60 : decode cX2_ofMatch 60 = .ok (.iload_n 1, 1) := by decide +kernel
theorem dX2_ofMatch_61 : decode cX2_ofMatch 61 = .ok (.isub, 1) := by decide +kernel
theorem dX2_ofMatch_62 : decode cX2_ofMatch 62 = .ok (.iload 13, 2) := by decide +kernel
theorem dX2_ofMatch_64 : decode cX2_ofMatch 64 = .ok (.iadd, 1) := by decide +kernel
theorem dX2_ofMatch_65 : decode cX2_ofMatch 65 = .ok (.iload_n 2, 1) := by decide +kernel
theorem dX2_ofMatch_66 : decode cX2_ofMatch 66 = .ok (.isub, 1) := by decide +kernel
theorem dX2_ofMatch_67 : decode cX2_ofMatch 67 = .ok (.iconst 2, 1) := by decide +kernel
theorem dX2_ofMatch_68 : decode cX2_ofMatch 68 = .ok (.irem, 1) := by decide +kernel
theorem dX2_ofMatch_69 : decode cX2_ofMatch 69 = .ok (.ifCond .ne 7, 3) := by decide +kernel
theorem dX2_ofMatch_72 : decode cX2_ofMatch 72 = .ok (.iconst 1, 1) := by decide +kernel
theorem dX2_ofMatch_73 : decode cX2_ofMatch 73 = .ok (.goto 4, 3) := by decide +kernel
theorem dX2_ofMatch_76 : decode cX2_ofMatch 76 = .ok (.iconst 0, 1) := by decide +kernel
theorem dX2_ofMatch_77 : decode cX2_ofMatch 77 = .ok (.istore 14, 2) := by decide +kernel
theorem dX2_ofMatch_79 : decode cX2_ofMatch 79 = .ok (.iload 14, 2) := by decide +kernel
theorem dX2_ofMatch_81 : decode cX2_ofMatch 81 = .ok (.ifCond .eq 8, 3) := by decide +kernel
theorem dX2_ofMatch_84 : decode cX2_ofMatch 84 = .ok (.lload 8, 2) := by decide +kernel
theorem dX2_ofMatch_86 : decode cX2_ofMatch 86 = .ok (.goto 5, 3) := by decide +kernel
theorem dX2_ofMatch_89 : decode cX2_ofMatch 89 = .ok (.lload 10, 2) := by decide +kernel
theorem dX2_ofMatch_91 : decode cX2_ofMatch 91 = .ok (.lstore 15, 2) := by decide +kernel
theorem dX2_ofMatch_93 : decode cX2_ofMatch 93 = .ok (.aload_n 0, 1) := by decide +kernel
theorem dX2_ofMatch_94 : decode cX2_ofMatch 94 = .ok (.getfield 20, 3) := by decide +kernel
theorem dX2_ofMatch_97 : decode cX2_ofMatch 97 = .ok (.iload 12, 2) := by decide +kernel
theorem dX2_ofMatch_99 : decode cX2_ofMatch 99 = .ok (.iload 13, 2) := by decide +kernel
theorem dX2_ofMatch_101 : decode cX2_ofMatch 101 = .ok (.aload_n 0, 1) := by decide +kernel
theorem dX2_ofMatch_102 : decode cX2_ofMatch 102 = .ok (.getfield 20, 3) := by decide +kernel
theorem dX2_ofMatch_105 : decode cX2_ofMatch 105 = .ok (.iload 12, 2) := by decide +kernel
theorem dX2_ofMatch_107 : decode cX2_ofMatch 107 = .ok (.iload 13, 2) := by decide +kernel
theorem dX2_ofMatch_109 : decode cX2_ofMatch 109 = .ok (.aload_n 0, 1) := by decide +kernel
theorem dX2_ofMatch_110 : decode cX2_ofMatch 110 = .ok (.getfield 23, 3) := by decide +kernel
theorem dX2_ofMatch_113 : decode cX2_ofMatch 113 = .ok (.iload 12, 2) := by decide +kernel
theorem dX2_ofMatch_115 : decode cX2_ofMatch 115 = .ok (.iload 13, 2) := by decide +kernel
theorem dX2_ofMatch_117 : decode cX2_ofMatch 117 = .ok (.invokevirtual 58, 3) := by decide +kernel
theorem dX2_ofMatch_120 : decode cX2_ofMatch 120 = .ok (.lload 15, 2) := by decide +kernel
theorem dX2_ofMatch_122 : decode cX2_ofMatch 122 = .ok (.invokestatic 39, 3) := by decide +kernel
theorem dX2_ofMatch_125 : decode cX2_ofMatch 125 = .ok (.invokevirtual 43, 3) := by decide +kernel
theorem dX2_ofMatch_128 : decode cX2_ofMatch 128 = .ok (.iinc 13 (-1), 3) := by decide +kernel
theorem dX2_ofMatch_131 : decode cX2_ofMatch 131 = .ok (.goto (-81), 3) := by decide +kernel
theorem dX2_ofMatch_134 : decode cX2_ofMatch 134 = .ok (.iinc 12 (-1), 3) := by decide +kernel
theorem dX2_ofMatch_137 : decode cX2_ofMatch 137 = .ok (.goto (-102), 3) := by decide +kernel
theorem dX2_ofMatch_140 : decode cX2_ofMatch 140 = .ok (.aload_n 0, 1) := by decide +kernel
theorem dX2_ofMatch_141 : decode cX2_ofMatch 141 = .ok (.getfield 20, 3) := by decide +kernel
theorem dX2_ofMatch_144 : decode cX2_ofMatch 144 = .ok (.iload_n 1, 1) := by decide +kernel
theorem dX2_ofMatch_145 : decode cX2_ofMatch 145 = .ok (.iload_n 2, 1) := by decide +kernel
theorem dX2_ofMatch_146 : decode cX2_ofMatch 146 = .ok (.invokevirtual 47, 3) := by decide +kernel
theorem dX2_ofMatch_149 : decode cX2_ofMatch 149 = .ok (.lreturn, 1) := by decide +kernel
set_option maxRecDepth 20000 in
theorem ggX2_ofScore_X1_at : GoodIn wsX2_ofScore wsX1_at := goodIn_r _ [6, 7, 8, 9, 10, 11, 5, 12, 13, 14] (by decide +kernel) (by decide +kernel)
set_option maxRecDepth 20000 in
theorem gX2_ofScore_X1_at : GoodIn wsX2_ofScore (wsV RX2 47 RX1 yX1_at wsX1_at) := goodIn_app (goodIn_of _ (by decide +kernel)) ggX2_ofScore_X1_at
theorem dX2_ofScore_0 : decode cX2_ofScore 0 = .ok (.iload_n 3, 1) := by decide +kernel
theorem dX2_ofScore_1 : decode cX2_ofScore 1 = .ok (.ifCond .eq 16, 3) := by decide +kernel
theorem dX2_ofScore_4 : decode cX2_ofScore 4 = .ok (.iload_n 3, 1) := by decide +kernel
theorem dX2_ofScore_5 : decode cX2_ofScore 5 = .ok (.iconst 1, 1) := by decide +kernel
theorem dX2_ofScore_6 : decode cX2_ofScore 6 = .ok (.if_icmp .ne 9, 3) := by decide +kernel
theorem dX2_ofScore_9 : decode cX2_ofScore 9 = .ok (.ldc2_w 61, 3) := by decide +kernel
theorem dX2_ofScore_12 : decode cX2_ofScore 12 = .ok (.goto 4, 3) := by decide +kernel
theorem dX2_ofScore_15 : decode cX2_ofScore 15 = .ok (.lconst 0, 1) := by decide +kernel
theorem dX2_ofScore_16 : decode cX2_ofScore 16 = .ok (.lreturn, 1) := by decide +kernel
theorem dX2_ofScore_17 : decode cX2_ofScore 17 = .ok (.lload 4, 2) := by decide +kernel
theorem dX2_ofScore_19 : decode cX2_ofScore 19 = .ok (.aload_n 0, 1) := by decide +kernel
theorem dX2_ofScore_20 : decode cX2_ofScore 20 = .ok (.iload_n 1, 1) := by decide +kernel
theorem dX2_ofScore_21 : decode cX2_ofScore 21 = .ok (.iconst 1, 1) := by decide +kernel
theorem dX2_ofScore_22 : decode cX2_ofScore 22 = .ok (.iadd, 1) := by decide +kernel
theorem dX2_ofScore_23 : decode cX2_ofScore 23 = .ok (.iload_n 2, 1) := by decide +kernel
theorem dX2_ofScore_24 : decode cX2_ofScore 24 = .ok (.invokevirtual 47, 3) := by decide +kernel
theorem dX2_ofScore_27 : decode cX2_ofScore 27 = .ok (.lmul, 1) := by decide +kernel
theorem dX2_ofScore_28 : decode cX2_ofScore 28 = .ok (.ldc2_w 61, 3) := by decide +kernel
theorem dX2_ofScore_31 : decode cX2_ofScore 31 = .ok (.lload 4, 2) := by decide +kernel
theorem dX2_ofScore_33 : decode cX2_ofScore 33 = .ok (.lsub, 1) := by decide +kernel
theorem dX2_ofScore_34 : decode cX2_ofScore 34 = .ok (.aload_n 0, 1) := by decide +kernel
theorem dX2_ofScore_35 : decode cX2_ofScore 35 = .ok (.iload_n 1, 1) := by decide +kernel
theorem dX2_ofScore_36 : decode cX2_ofScore 36 = .ok (.iload_n 2, 1) := by decide +kernel
theorem dX2_ofScore_37 : decode cX2_ofScore 37 = .ok (.iconst 1, 1) := by decide +kernel
theorem dX2_ofScore_38 : decode cX2_ofScore 38 = .ok (.iadd, 1) := by decide +kernel
theorem dX2_ofScore_39 : decode cX2_ofScore 39 = .ok (.invokevirtual 47, 3) := by decide +kernel
theorem dX2_ofScore_42 : decode cX2_ofScore 42 = .ok (.lmul, 1) := by decide +kernel
theorem dX2_ofScore_43 : decode cX2_ofScore 43 = .ok (.ladd, 1) := by decide +kernel
theorem dX2_ofScore_44 : decode cX2_ofScore 44 = .ok (.ldc2_w 61, 3) := by decide +kernel
theorem dX2_ofScore_47 : decode cX2_ofScore 47 = .ok (.ldiv, 1) := by decide +kernel
theorem dX2_ofScore_48 : decode cX2_ofScore 48 = .ok (.lreturn, 1) := by decide +kernel
theorem dX3_init_0 : decode cX3_init 0 = .ok (.aload_n 0, 1) := by decide +kernel
theorem dX3_init_1 : decode cX3_init 1 = .ok (.invokespecial 3, 3) := by decide +kernel
theorem dX3_init_4 : decode cX3_init 4 = .ok (.return_, 1) := by decide +kernel
theorem dX3_clear_0 : decode cX3_clear 0 = .ok (.aload_n 0, 1) := by decide +kernel
theorem dX3_clear_1 : decode cX3_clear 1 = .ok (.iconst 0, 1) := by decide +kernel
theorem dX3_clear_2 : decode cX3_clear 2 = .ok (.putfield 9, 3) := by decide +kernel
theorem dX3_clear_5 : decode cX3_clear 5 = .ok (.aload_n 0, 1) := by decide +kernel
theorem dX3_clear_6 : decode cX3_clear 6 = .ok (.iconst 0, 1) := by decide +kernel
theorem dX3_clear_7 : decode cX3_clear 7 = .ok (.putfield 15, 3) := by decide +kernel
theorem dX3_clear_10 : decode cX3_clear 10 = .ok (.return_, 1) := by decide +kernel
theorem dX3_oneMore_0 : decode cX3_oneMore 0 = .ok (.iload_n 1, 1) := by decide +kernel
theorem dX3_oneMore_1 : decode cX3_oneMore 1 = .ok (.ifCond .ne 16, 3) := by decide +kernel
theorem dX3_oneMore_4 : decode cX3_oneMore 4 = .ok (.aload_n 0, 1) := by decide +kernel
theorem dX3_oneMore_5 : decode cX3_oneMore 5 = .ok (.dup, 1) := by decide +kernel
theorem dX3_oneMore_6 : decode cX3_oneMore 6 = .ok (.getfield 9, 3) := by decide +kernel
theorem dX3_oneMore_9 : decode cX3_oneMore 9 = .ok (.iconst 1, 1) := by decide +kernel
theorem dX3_oneMore_10 : decode cX3_oneMore 10 = .ok (.iadd, 1) := by decide +kernel
theorem dX3_oneMore_11 : decode cX3_oneMore 11 = .ok (.putfield 9, 3) := by decide +kernel
theorem dX3_oneMore_14 : decode cX3_oneMore 14 = .ok (.goto 13, 3) := by decide +kernel
theorem dX3_oneMore_17 : decode cX3_oneMore 17 = .ok (.aload_n 0, 1) := by decide +kernel
theorem dX3_oneMore_18 : decode cX3_oneMore 18 = .ok (.dup, 1) := by decide +kernel
theorem dX3_oneMore_19 : decode cX3_oneMore 19 = .ok (.getfield 15, 3) := by decide +kernel
theorem dX3_oneMore_22 : decode cX3_oneMore 22 = .ok (.iconst 1, 1) := by decide +kernel
theorem dX3_oneMore_23 : decode cX3_oneMore 23 = .ok (.iadd, 1) := by decide +kernel
theorem dX3_oneMore_24 : decode cX3_oneMore 24 = .ok (.putfield 15, 3) := by decide +kernel
theorem dX3_oneMore_27 : decode cX3_oneMore 27 = .ok (.return_, 1) := by decide +kernel
set_option maxRecDepth 20000 in
theorem ggX4_init_X3_init : GoodIn wsX4_init wsX3_init := goodIn_r _ [16, 17, 2, 3] (by decide +kernel) (by decide +kernel)
set_option maxRecDepth 20000 in
theorem gX4_init_X3_init_n17 : GoodIn wsX4_init (wsX3_init) := ggX4_init_X3_init
set_option maxRecDepth 20000 in
theorem ggX4_init_X4_restart : GoodIn wsX4_init wsX4_restart := goodIn_r _ [22, 9, 10, 11, 12, 13, 23, 24, 25, 26, 27, 28, 8, 29, 30, 31, 32, 33, 34, 35, 36, 37, 38, 39, 40, 41, 42, 43] (by decide +kernel) (by decide +kernel)
set_option maxRecDepth 20000 in
theorem gX4_init_X4_restart : GoodIn wsX4_init (wsV RX4 38 RX4 yX4_restart wsX4_restart) := goodIn_app (goodIn_of _ (by decide +kernel)) ggX4_init_X4_restart
theorem dX4_init_0 : decode cX4_init 0 = .ok (.aload_n 0, 1) := by decide +kernel
theorem dX4_init_1 : decode cX4_init 1 = .ok (.invokespecial 3, 3) := by decide +kernel
theorem dX4_init_4 : decode cX4_init 4 = .ok (.aload_n 0, 1) := by decide +kernel
theorem dX4_init_5 : decode cX4_init 5 = .ok (.sipush 400, 3) := by decide +kernel
theorem dX4_init_8 : decode cX4_init 8 = .ok (.newarray .boolean, 2) := by decide +kernel
theorem dX4_init_10 : decode cX4_init 10 = .ok (.putfield 9, 3) := by decide +kernel
theorem dX4_init_13 : decode cX4_init 13 = .ok (.aload_n 0, 1) := by decide +kernel
theorem dX4_init_14 : decode cX4_init 14 = .ok (.new 15, 3) := by decide +kernel
theorem dX4_init_17 : decode cX4_init 17 = .ok (.dup, 1) := by decide +kernel
theorem dX4_init_18 : decode cX4_init 18 = .ok (.invokespecial 17, 3) := by decide +kernel
theorem dX4_init_21 : decode cX4_init 21 = .ok (.putfield 18, 3) := by decide +kernel
theorem dX4_init_24 : decode cX4_init 24 = .ok (.aload_n 0, 1) := by decide +kernel
theorem dX4_init_25 : decode cX4_init 25 = .ok (.new 15, 3) := by decide +kernel
theorem dX4_init_28 : decode cX4_init 28 = .ok (.dup, 1) := by decide +kernel
theorem dX4_init_29 : decode cX4_init 29 = .ok (.invokespecial 17, 3) := by decide +kernel
theorem dX4_init_32 : decode cX4_init 32 = .ok (.putfield 22, 3) := by decide +kernel
theorem dX4_init_35 : decode cX4_init 35 = .ok (.aload_n 0, 1) := by decide +kernel
theorem dX4_init_36 : decode cX4_init 36 = .ok (.new 15, 3) := by decide +kernel
theorem dX4_init_39 : decode cX4_init 39 = .ok (.dup, 1) := by decide +kernel
theorem dX4_init_40 : decode cX4_init 40 = .ok (.invokespecial 17, 3) := by decide +kernel
theorem dX4_init_43 : decode cX4_init 43 = .ok (.putfield 25, 3) := by decide +kernel
theorem dX4_init_46 : decode cX4_init 46 = .ok (.aload_n 0, 1) := by decide +kernel
theorem dX4_init_47 : decode cX4_init 47 = .ok (.new 15, 3) := by decide +kernel
theorem dX4_init_50 : decode cX4_init 50 = .ok (.dup, 1) := by decide +kernel
theorem dX4_init_51 : decode cX4_init 51 = .ok (.invokespecial 17, 3) := by decide +kernel
theorem dX4_init_54 : decode cX4_init 54 = .ok (.putfield 28, 3) := by decide +kernel
theorem dX4_init_57 : decode cX4_init 57 = .ok (.aload_n 0, 1) := by decide +kernel
theorem dX4_init_58 : decode cX4_init 58 = .ok (.new 15, 3) := by decide +kernel
theorem dX4_init_61 : decode cX4_init 61 = .ok (.dup, 1) := by decide +kernel
theorem dX4_init_62 : decode cX4_init 62 = .ok (.invokespecial 17, 3) := by decide +kernel
theorem dX4_init_65 : decode cX4_init 65 = .ok (.putfield 31, 3) := by decide +kernel
theorem dX4_init_68 : decode cX4_init 68 = .ok (.aload_n 0, 1) := by decide +kernel
theorem dX4_init_69 : decode cX4_init 69 = .ok (.aload_n 1, 1) := by decide +kernel
theorem dX4_init_70 : decode cX4_init 70 = .ok (.putfield 34, 3) := by decide +kernel
theorem dX4_init_73 : decode cX4_init 73 = .ok (.aload_n 0, 1) := by decide +kernel
theorem dX4_init_74 : decode cX4_init 74 = .ok (.invokevirtual 38, 3) := by decide +kernel
theorem dX4_init_77 : decode cX4_init 77 = .ok (.return_, 1) := by decide +kernel
set_option maxRecDepth 20000 in
theorem ggX4_restart_X3_clear : GoodIn wsX4_restart wsX3_clear := goodIn_r _ [13, 14, 15, 26, 27] (by decide +kernel) (by decide +kernel)
set_option maxRecDepth 20000 in
theorem gX4_restart_X3_clear : GoodIn wsX4_restart (wsV RX4 41 RX3 yX3_clear wsX3_clear) := goodIn_app (goodIn_of _ (by decide +kernel)) ggX4_restart_X3_clear
theorem dX4_restart_0 : decode cX4_restart 0 = .ok (.aload_n 0, 1) := by decide +kernel
theorem dX4_restart_1 : decode cX4_restart 1 = .ok (.getfield 18, 3) := by decide +kernel
theorem dX4_restart_4 : decode cX4_restart 4 = .ok (.invokevirtual 41, 3) := by decide +kernel
theorem dX4_restart_7 : decode cX4_restart 7 = .ok (.aload_n 0, 1) := by decide +kernel
theorem dX4_restart_8 : decode cX4_restart 8 = .ok (.getfield 22, 3) := by decide +kernel
theorem dX4_restart_11 : decode cX4_restart 11 = .ok (.invokevirtual 41, 3) := by decide +kernel
theorem dX4_restart_14 : decode cX4_restart 14 = .ok (.aload_n 0, 1) := by decide +kernel
theorem dX4_restart_15 : decode cX4_restart 15 = .ok (.getfield 25, 3) := by decide +kernel
theorem dX4_restart_18 : decode cX4_restart 18 = .ok (.invokevirtual 41, 3) := by decide +kernel
theorem dX4_restart_21 : decode cX4_restart 21 = .ok (.aload_n 0, 1) := by decide +kernel
theorem dX4_restart_22 : decode cX4_restart 22 = .ok (.getfield 28, 3) := by decide +kernel
theorem dX4_restart_25 : decode cX4_restart 25 = .ok (.invokevirtual 41, 3) := by decide +kernel
theorem dX4_restart_28 : decode cX4_restart 28 = .ok (.aload_n 0, 1) := by decide +kernel
theorem dX4_restart_29 : decode cX4_restart 29 = .ok (.getfield 31, 3) := by decide +kernel
theorem dX4_restart_32 : decode cX4_restart 32 = .ok (.invokevirtual 41, 3) := by decide +kernel
theorem dX4_restart_35 : decode cX4_restart 35 = .ok (.aload_n 0, 1) := by decide +kernel
theorem dX4_restart_36 : decode cX4_restart 36 = .ok (.iconst 0, 1) := by decide +kernel
theorem dX4_restart_37 : decode cX4_restart 37 = .ok (.putfield 44, 3) := by decide +kernel
theorem dX4_restart_40 : decode cX4_restart 40 = .ok (.aload_n 0, 1) := by decide +kernel
theorem dX4_restart_41 : decode cX4_restart 41 = .ok (.iconst 0, 1) := by decide +kernel
theorem dX4_restart_42 : decode cX4_restart 42 = .ok (.putfield 48, 3) := by decide +kernel
theorem dX4_restart_45 : decode cX4_restart 45 = .ok (.aload_n 0, 1) := by decide +kernel
theorem dX4_restart_46 : decode cX4_restart 46 = .ok (.iconst 0, 1) := by decide +kernel
theorem dX4_restart_47 : decode cX4_restart 47 = .ok (.putfield 51, 3) := by decide +kernel
theorem dX4_restart_50 : decode cX4_restart 50 = .ok (.return_, 1) := by decide +kernel
set_option maxRecDepth 20000 in
theorem ggX4_tell_X3_oneMore : GoodIn wsX4_tell wsX3_oneMore := goodIn_r _ [14, 15, 16, 84, 85] (by decide +kernel) (by decide +kernel)
set_option maxRecDepth 20000 in
theorem gX4_tell_X3_oneMore : GoodIn wsX4_tell (wsV RX4 54 RX3 yX3_oneMore wsX3_oneMore) := goodIn_app (goodIn_of _ (by decide +kernel)) ggX4_tell_X3_oneMore
set_option maxRecDepth 20000 in
theorem ggX4_tell_X4_pointsOfA : GoodIn wsX4_tell wsX4_pointsOfA := goodIn_r _ [21, 6, 22, 7, 3, 23, 24, 25, 26, 27, 28, 67, 68, 69, 70, 71, 72, 73, 74, 75, 76, 84, 85, 77, 78, 79, 80, 81, 82, 83] (by decide +kernel) (by decide +kernel)
set_option maxRecDepth 20000 in
theorem gX4_tell_X4_pointsOfA : GoodIn wsX4_tell (wsV RX4 63 RX4 yX4_pointsOfA wsX4_pointsOfA) := goodIn_app (goodIn_of _ (by decide +kernel)) ggX4_tell_X4_pointsOfA
set_option maxRecDepth 20000 in
theorem ggX4_tell_X5_gameWinner : GoodIn wsX4_tell wsX5_gameWinner := goodIn_r _ [32, 33, 34, 35, 36, 37, 38, 39, 40, 41, 42, 26, 43, 77, 78, 79, 80, 81, 82, 83] (by decide +kernel) (by decide +kernel)
set_option maxRecDepth 20000 in
theorem gX4_tell_X5_gameWinner : GoodIn wsX4_tell (wsV RX4 70 RX5 yX5_gameWinner wsX5_gameWinner) := goodIn_app (goodIn_of _ (by decide +kernel)) ggX4_tell_X5_gameWinner
set_option maxRecDepth 20000 in
theorem ggX4_tell_X4_endGame : GoodIn wsX4_tell wsX4_endGame := goodIn_r _ [47, 6, 48, 3, 7, 22, 9, 49, 50, 51, 13, 52, 15, 16, 10, 11, 12, 14, 53, 54, 55, 26, 56, 33, 34, 35, 36, 57, 58, 59, 60, 41, 42, 43, 61, 62, 63, 20, 64, 65, 66, 67, 68, 69, 70, 71, 72, 73, 74, 75, 76, 84, 85, 77, 78, 79, 80, 81, 82, 83] (by decide +kernel) (by decide +kernel)
set_option maxRecDepth 20000 in
theorem gX4_tell_X4_endGame : GoodIn wsX4_tell (wsV RX4 74 RX4 yX4_endGame wsX4_endGame) := goodIn_app (goodIn_of _ (by decide +kernel)) ggX4_tell_X4_endGame
theorem dX4_tell_0 : decode cX4_tell 0 = .ok (.aload_n 0, 1) := by decide +kernel
theorem dX4_tell_1 : decode cX4_tell 1 = .ok (.getfield 51, 3) := by decide +kernel
theorem dX4_tell_4 : decode cX4_tell 4 = .ok (.ifCond .lt 15, 3) := by decide +kernel
theorem dX4_tell_7 : decode cX4_tell 7 = .ok (.aload_n 0, 1) := by decide +kernel
theorem dX4_tell_8 : decode cX4_tell 8 = .ok (.getfield 51, 3) := by decide +kernel
theorem dX4_tell_11 : decode cX4_tell 11 = .ok (.aload_n 0, 1) := by decide +kernel
theorem dX4_tell_12 : decode cX4_tell 12 = .ok (.getfield 9, 3) := by decide +kernel
theorem dX4_tell_15 : decode cX4_tell 15 = .ok (.arraylength, 1) := by decide +kernel
theorem dX4_tell_16 : decode cX4_tell 16 = .ok (.if_icmp .lt 4, 3) := by decide +kernel
theorem dX4_tell_19 : decode cX4_tell 19 = .ok (.return_, 1) := by decide +kernel
theorem dX4_tell_20 : decode cX4_tell 20 = .ok (.aload_n 0, 1) := by decide +kernel
theorem dX4_tell_21 : decode cX4_tell 21 = .ok (.getfield 9, 3) := by decide +kernel
theorem dX4_tell_24 : decode cX4_tell 24 = .ok (.aload_n 0, 1) := by decide +kernel
theorem dX4_tell_25 : decode cX4_tell 25 = .ok (.getfield 51, 3) := by decide +kernel
theorem dX4_tell_28 : decode cX4_tell 28 = .ok (.iload_n 1, 1) := by decide +kernel
theorem dX4_tell_29 : decode cX4_tell 29 = .ok (.ifCond .ne 7, 3) := by decide +kernel
theorem dX4_tell_32 : decode cX4_tell 32 = .ok (.iconst 1, 1) := by decide +kernel
theorem dX4_tell_33 : decode cX4_tell 33 = .ok (.goto 4, 3) := by decide +kernel
theorem dX4_tell_36 : decode cX4_tell 36 = .ok (.iconst 0, 1) := by decide +kernel
theorem dX4_tell_37 : decode cX4_tell 37 = .ok (.bastore, 1) := by decide +kernel
theorem dX4_tell_38 : decode cX4_tell 38 = .ok (.aload_n 0, 1) := by decide +kernel
theorem dX4_tell_39 : decode cX4_tell 39 = .ok (.dup, 1) := by decide +kernel
theorem dX4_tell_40 : decode cX4_tell 40 = .ok (.getfield 51, 3) := by decide +kernel
theorem dX4_tell_43 : decode cX4_tell 43 = .ok (.iconst 1, 1) := by decide +kernel
theorem dX4_tell_44 : decode cX4_tell 44 = .ok (.iadd, 1) := by decide +kernel
theorem dX4_tell_45 : decode cX4_tell 45 = .ok (.putfield 51, 3) := by decide +kernel
theorem dX4_tell_48 : decode cX4_tell 48 = .ok (.aload_n 0, 1) := by decide +kernel
theorem dX4_tell_49 : decode cX4_tell 49 = .ok (.getfield 48, 3) := by decide +kernel
theorem dX4_tell_52 : decode cX4_tell 52 = .ok (.ifCond .ne 14, 3) := by decide +kernel
theorem dX4_tell_55 : decode cX4_tell 55 = .ok (.aload_n 0, 1) := by decide +kernel
theorem dX4_tell_56 : decode cX4_tell 56 = .ok (.getfield 28, 3) := by decide +kernel
theorem dX4_tell_59 : decode cX4_tell 59 = .ok (.iload_n 1, 1) := by decide +kernel
theorem dX4_tell_60 : decode cX4_tell 60 = .ok (.invokevirtual 54, 3) := by decide +kernel
theorem dX4_tell_63 : decode cX4_tell 63 = .ok (.goto 11, 3) := by decide +kernel
theorem dX4_tell_66 : decode cX4_tell 66 = .ok (.aload_n 0, 1) := by decide +kernel
theorem dX4_tell_67 : decode cX4_tell 67 = .ok (.getfield 31, 3) := by decide +kernel
theorem dX4_tell_70 : decode cX4_tell 70 = .ok (.iload_n 1, 1) := by decide +kernel
theorem dX4_tell_71 : decode cX4_tell 71 = .ok (.invokevirtual 54, 3) := by decide +kernel
theorem dX4_tell_74 : decode cX4_tell 74 = .ok (.aload_n 0, 1) := by decide +kernel
theorem dX4_tell_75 : decode cX4_tell 75 = .ok (.getfield 18, 3) := by decide +kernel
theorem dX4_tell_78 : decode cX4_tell 78 = .ok (.iload_n 1, 1) := by decide +kernel
theorem dX4_tell_79 : decode cX4_tell 79 = .ok (.invokevirtual 54, 3) := by decide +kernel
theorem dX4_tell_82 : decode cX4_tell 82 = .ok (.aload_n 0, 1) := by decide +kernel
theorem dX4_tell_83 : decode cX4_tell 83 = .ok (.getfield 34, 3) := by decide +kernel
theorem dX4_tell_86 : decode cX4_tell 86 = .ok (.aload_n 0, 1) := by decide +kernel
theorem dX4_tell_87 : decode cX4_tell 87 = .ok (.getfield 34, 3) := by decide +kernel
theorem dX4_tell_90 : decode cX4_tell 90 = .ok (.getfield 58, 3) := by decide +kernel
theorem dX4_tell_93 : decode cX4_tell 93 = .ok (.aload_n 0, 1) := by decide +kernel
theorem dX4_tell_94 : decode cX4_tell 94 = .ok (.invokevirtual 63, 3) := by decide +kernel
theorem dX4_tell_97 : decode cX4_tell 97 = .ok (.aload_n 0, 1) := by decide +kernel
theorem dX4_tell_98 : decode cX4_tell 98 = .ok (.getfield 18, 3) := by decide +kernel
theorem dX4_tell_101 : decode cX4_tell 101 = .ok (.getfield 67, 3) := by decide +kernel
theorem dX4_tell_104 : decode cX4_tell 104 = .ok (.invokevirtual 70, 3) := by decide +kernel
theorem dX4_tell_107 : decode cX4_tell 107 = .ok (.istore_n 2, 1) := by decide +kernel
theorem dX4_tell_108 : decode cX4_tell 108 = .ok (.iload_n 2, 1) := by decide +kernel
theorem dX4_tell_109 : decode cX4_tell 109 = .ok (.ifCond .eq 17, 3) := by decide +kernel
theorem dX4_tell_112 : decode cX4_tell 112 = .ok (.aload_n 0, 1) := by decide +kernel
theorem dX4_tell_113 : decode cX4_tell 113 = .ok (.iload_n 2, 1) := by decide +kernel
theorem dX4_tell_114 : decode cX4_tell 114 = .ok (.iconst 1, 1) := by decide +kernel
theorem dX4_tell_115 : decode cX4_tell 115 = .ok (.if_icmp .ne 7, 3) := by decide +kernel
theorem dX4_tell_118 : decode cX4_tell 118 = .ok (.iconst 0, 1) := by decide +kernel
theorem dX4_tell_119 : decode cX4_tell 119 = .ok (.goto 4, 3) := by decide +kernel
theorem dX4_tell_122 : decode cX4_tell 122 = .ok (.iconst 1, 1) := by decide +kernel

theorem dX4_tell_123 : decode cX4_tell 123 = .ok (.invokevirtual 74, 3) := by decide +kernel
theorem dX4_tell_126 : decode cX4_tell 126 = .ok (.return_, 1) := by decide +kernel
set_option maxRecDepth 20000 in
theorem ggX4_pointsOfA_X5_headStartOfA : GoodIn wsX4_pointsOfA wsX5_headStartOfA := goodIn_r _ [9, 10, 23, 24, 25, 26, 27, 28, 29] (by decide +kernel) (by decide +kernel)
set_option maxRecDepth 20000 in
theorem gX4_pointsOfA_X5_headStartOfA : GoodIn wsX4_pointsOfA (wsV RX4 80 RX5 yX5_headStartOfA wsX5_headStartOfA) := goodIn_app (goodIn_of _ (by decide +kernel)) ggX4_pointsOfA_X5_headStartOfA
theorem dX4_pointsOfA_0 : decode cX4_pointsOfA 0 = .ok (.aload_n 0, 1) := by decide +kernel
theorem dX4_pointsOfA_1 : decode cX4_pointsOfA 1 = .ok (.getfield 18, 3) := by decide +kernel
theorem dX4_pointsOfA_4 : decode cX4_pointsOfA 4 = .ok (.getfield 77, 3) := by decide +kernel
theorem dX4_pointsOfA_7 : decode cX4_pointsOfA 7 = .ok (.aload_n 0, 1) := by decide +kernel
theorem dX4_pointsOfA_8 : decode cX4_pointsOfA 8 = .ok (.getfield 34, 3) := by decide +kernel
theorem dX4_pointsOfA_11 : decode cX4_pointsOfA 11 = .ok (.aload_n 0, 1) := by decide +kernel
theorem dX4_pointsOfA_12 : decode cX4_pointsOfA 12 = .ok (.getfield 48, 3) := by decide +kernel
theorem dX4_pointsOfA_15 : decode cX4_pointsOfA 15 = .ok (.invokevirtual 80, 3) := by decide +kernel
theorem dX4_pointsOfA_18 : decode cX4_pointsOfA 18 = .ok (.iadd, 1) := by decide +kernel
theorem dX4_pointsOfA_19 : decode cX4_pointsOfA 19 = .ok (.ireturn, 1) := by decide +kernel
set_option maxRecDepth 20000 in
theorem ggX4_endGame_X3_clear : GoodIn wsX4_endGame wsX3_clear := goodIn_r _ [11, 12, 13, 51, 52] (by decide +kernel) (by decide +kernel)
set_option maxRecDepth 20000 in
theorem gX4_endGame_X3_clear : GoodIn wsX4_endGame (wsV RX4 41 RX3 yX3_clear wsX3_clear) := goodIn_app (goodIn_of _ (by decide +kernel)) ggX4_endGame_X3_clear
set_option maxRecDepth 20000 in
theorem ggX4_endGame_X3_oneMore : GoodIn wsX4_endGame wsX3_oneMore := goodIn_r _ [17, 12, 13, 51, 52] (by decide +kernel) (by decide +kernel)
set_option maxRecDepth 20000 in
theorem gX4_endGame_X3_oneMore : GoodIn wsX4_endGame (wsV RX4 54 RX3 yX3_oneMore wsX3_oneMore) := goodIn_app (goodIn_of _ (by decide +kernel)) ggX4_endGame_X3_oneMore
set_option maxRecDepth 20000 in
theorem ggX4_endGame_X5_setWinner : GoodIn wsX4_endGame wsX5_setWinner := goodIn_r _ [22, 23, 24, 25, 26, 27, 28, 29, 30, 31, 32, 21, 33, 53, 54, 55, 56, 57, 58, 59] (by decide +kernel) (by decide +kernel)
set_option maxRecDepth 20000 in
theorem gX4_endGame_X5_setWinner : GoodIn wsX4_endGame (wsV RX4 84 RX5 yX5_setWinner wsX5_setWinner) := goodIn_app (goodIn_of _ (by decide +kernel)) ggX4_endGame_X5_setWinner
set_option maxRecDepth 20000 in
theorem ggX4_endGame_X4_endSet : GoodIn wsX4_endGame wsX4_endSet := goodIn_r _ [38, 2, 39, 40, 3, 7, 8, 9, 10, 11, 12, 13, 14, 15, 16, 17, 41, 42, 43, 44, 45, 46, 47, 48, 49, 50, 51, 52] (by decide +kernel) (by decide +kernel)
set_option maxRecDepth 20000 in
theorem gX4_endGame_X4_endSet : GoodIn wsX4_endGame (wsV RX4 88 RX4 yX4_endSet wsX4_endSet) := goodIn_app (goodIn_of _ (by decide +kernel)) ggX4_endGame_X4_endSet
theorem dX4_endGame_0 : decode cX4_endGame 0 = .ok (.aload_n 0, 1) := by decide +kernel
theorem dX4_endGame_1 : decode cX4_endGame 1 = .ok (.getfield 18, 3) := by decide +kernel
theorem dX4_endGame_4 : decode cX4_endGame 4 = .ok (.invokevirtual 41, 3) := by decide +kernel
theorem dX4_endGame_7 : decode cX4_endGame 7 = .ok (.aload_n 0, 1) := by decide +kernel
theorem dX4_endGame_8 : decode cX4_endGame 8 = .ok (.getfield 22, 3) := by decide +kernel
theorem dX4_endGame_11 : decode cX4_endGame 11 = .ok (.iload_n 1, 1) := by decide +kernel
theorem dX4_endGame_12 : decode cX4_endGame 12 = .ok (.invokevirtual 54, 3) := by decide +kernel
theorem dX4_endGame_15 : decode cX4_endGame 15 = .ok (.aload_n 0, 1) := by decide +kernel
theorem dX4_endGame_16 : decode cX4_endGame 16 = .ok (.aload_n 0, 1) := by decide +kernel
theorem dX4_endGame_17 : decode cX4_endGame 17 = .ok (.getfield 48, 3) := by decide +kernel
theorem dX4_endGame_20 : decode cX4_endGame 20 = .ok (.ifCond .ne 7, 3) := by decide +kernel
theorem dX4_endGame_23 : decode cX4_endGame 23 = .ok (.iconst 1, 1) := by decide +kernel
theorem dX4_endGame_24 : decode cX4_endGame 24 = .ok (.goto 4, 3) := by decide +kernel
theorem dX4_endGame_27 : decode cX4_endGame 27 = .ok (.iconst 0, 1) := by decide +kernel
theorem dX4_endGame_28 : decode cX4_endGame 28 = .ok (.putfield 48, 3) := by decide +kernel
theorem dX4_endGame_31 : decode cX4_endGame 31 = .ok (.aload_n 0, 1) := by decide +kernel
theorem dX4_endGame_32 : decode cX4_endGame 32 = .ok (.getfield 34, 3) := by decide +kernel
theorem dX4_endGame_35 : decode cX4_endGame 35 = .ok (.aload_n 0, 1) := by decide +kernel
theorem dX4_endGame_36 : decode cX4_endGame 36 = .ok (.getfield 22, 3) := by decide +kernel
theorem dX4_endGame_39 : decode cX4_endGame 39 = .ok (.getfield 77, 3) := by decide +kernel
theorem dX4_endGame_42 : decode cX4_endGame 42 = .ok (.aload_n 0, 1) := by decide +kernel
theorem dX4_endGame_43 : decode cX4_endGame 43 = .ok (.getfield 22, 3) := by decide +kernel
theorem dX4_endGame_46 : decode cX4_endGame 46 = .ok (.getfield 67, 3) := by decide +kernel
theorem dX4_endGame_49 : decode cX4_endGame 49 = .ok (.invokevirtual 84, 3) := by decide +kernel
theorem dX4_endGame_52 : decode cX4_endGame 52 = .ok (.istore_n 2, 1) := by decide +kernel
theorem dX4_endGame_53 : decode cX4_endGame 53 = .ok (.iload_n 2, 1) := by decide +kernel
theorem dX4_endGame_54 : decode cX4_endGame 54 = .ok (.ifCond .eq 17, 3) := by decide +kernel
theorem dX4_endGame_57 : decode cX4_endGame 57 = .ok (.aload_n 0, 1) := by decide +kernel
theorem dX4_endGame_58 : decode cX4_endGame 58 = .ok (.iload_n 2, 1) := by decide +kernel
theorem dX4_endGame_59 : decode cX4_endGame 59 = .ok (.iconst 1, 1) := by decide +kernel
theorem dX4_endGame_60 : decode cX4_endGame 60 = .ok (.if_icmp .ne 7, 3) := by decide +kernel
theorem dX4_endGame_63 : decode cX4_endGame 63 = .ok (.iconst 0, 1) := by decide +kernel
theorem dX4_endGame_64 : decode cX4_endGame 64 = .ok (.goto 4, 3) := by decide +kernel
theorem dX4_endGame_67 : decode cX4_endGame 67 = .ok (.iconst 1, 1) := by decide +kernel
theorem dX4_endGame_68 : decode cX4_endGame 68 = .ok (.invokevirtual 88, 3) := by decide +kernel
theorem dX4_endGame_71 : decode cX4_endGame 71 = .ok (.return_, 1) := by decide +kernel
set_option maxRecDepth 20000 in
theorem ggX4_endSet_X3_clear : GoodIn wsX4_endSet wsX3_clear := goodIn_r _ [9, 10, 11, 26, 27] (by decide +kernel) (by decide +kernel)
set_option maxRecDepth 20000 in
theorem gX4_endSet_X3_clear : GoodIn wsX4_endSet (wsV RX4 41 RX3 yX3_clear wsX3_clear) := goodIn_app (goodIn_of _ (by decide +kernel)) ggX4_endSet_X3_clear
set_option maxRecDepth 20000 in
theorem ggX4_endSet_X3_oneMore : GoodIn wsX4_endSet wsX3_oneMore := goodIn_r _ [15, 10, 11, 26, 27] (by decide +kernel) (by decide +kernel)
set_option maxRecDepth 20000 in
theorem gX4_endSet_X3_oneMore : GoodIn wsX4_endSet (wsV RX4 54 RX3 yX3_oneMore wsX3_oneMore) := goodIn_app (goodIn_of _ (by decide +kernel)) ggX4_endSet_X3_oneMore
theorem dX4_endSet_0 : decode cX4_endSet 0 = .ok (.aload_n 0, 1) := by decide +kernel
theorem dX4_endSet_1 : decode cX4_endSet 1 = .ok (.getfield 22, 3) := by decide +kernel
theorem dX4_endSet_4 : decode cX4_endSet 4 = .ok (.invokevirtual 41, 3) := by decide +kernel
theorem dX4_endSet_7 : decode cX4_endSet 7 = .ok (.aload_n 0, 1) := by decide +kernel
theorem dX4_endSet_8 : decode cX4_endSet 8 = .ok (.getfield 25, 3) := by decide +kernel
theorem dX4_endSet_11 : decode cX4_endSet 11 = .ok (.iload_n 1, 1) := by decide +kernel
theorem dX4_endSet_12 : decode cX4_endSet 12 = .ok (.invokevirtual 54, 3) := by decide +kernel
theorem dX4_endSet_15 : decode cX4_endSet 15 = .ok (.aload_n 0, 1) := by decide +kernel
theorem dX4_endSet_16 : decode cX4_endSet 16 = .ok (.aload_n 0, 1) := by decide +kernel
theorem dX4_endSet_17 : decode cX4_endSet 17 = .ok (.getfield 44, 3) := by decide +kernel
theorem dX4_endSet_20 : decode cX4_endSet 20 = .ok (.ifCond .ne 7, 3) := by decide +kernel
theorem dX4_endSet_23 : decode cX4_endSet 23 = .ok (.iconst 1, 1) := by decide +kernel
theorem dX4_endSet_24 : decode cX4_endSet 24 = .ok (.goto 4, 3) := by decide +kernel
theorem dX4_endSet_27 : decode cX4_endSet 27 = .ok (.iconst 0, 1) := by decide +kernel
theorem dX4_endSet_28 : decode cX4_endSet 28 = .ok (.putfield 44, 3) := by decide +kernel
theorem dX4_endSet_31 : decode cX4_endSet 31 = .ok (.aload_n 0, 1) := by decide +kernel
theorem dX4_endSet_32 : decode cX4_endSet 32 = .ok (.aload_n 0, 1) := by decide +kernel
theorem dX4_endSet_33 : decode cX4_endSet 33 = .ok (.getfield 44, 3) := by decide +kernel
theorem dX4_endSet_36 : decode cX4_endSet 36 = .ok (.putfield 48, 3) := by decide +kernel
theorem dX4_endSet_39 : decode cX4_endSet 39 = .ok (.return_, 1) := by decide +kernel
set_option maxRecDepth 20000 in
theorem ggX4_takeBack_X4_restart : GoodIn wsX4_takeBack wsX4_restart := goodIn_r _ [11, 12, 13, 14, 15, 16, 17, 18, 1, 19, 20, 21, 22, 23, 24, 25, 76, 77, 78, 79, 80, 81, 82, 83, 84, 85, 86, 87] (by decide +kernel) (by decide +kernel)
set_option maxRecDepth 20000 in
theorem gX4_takeBack_X4_restart : GoodIn wsX4_takeBack (wsV RX4 38 RX4 yX4_restart wsX4_restart) := goodIn_app (goodIn_of _ (by decide +kernel)) ggX4_takeBack_X4_restart
set_option maxRecDepth 20000 in
theorem ggX4_takeBack_X4_tell : GoodIn wsX4_takeBack wsX4_tell := goodIn_r _ [29, 1, 6, 18, 15, 16, 12, 30, 31, 32, 33, 34, 35, 22, 36, 24, 25, 37, 38, 39, 10, 40, 41, 42, 43, 44, 45, 46, 47, 48, 49, 50, 51, 52, 3, 4, 5, 53, 54, 55, 56, 57, 58, 59, 60, 61, 62, 63, 13, 19, 20, 21, 23, 64, 65, 66, 67, 68, 69, 70, 71, 72, 73, 74, 75, 14, 17, 76, 77, 78, 79, 80, 81, 82, 83, 84, 85, 88, 89, 90, 91, 92, 93, 94, 86, 87] (by decide +kernel) (by decide +kernel)
set_option maxRecDepth 20000 in
theorem gX4_takeBack_X4_tell : GoodIn wsX4_takeBack (wsV RX4 96 RX4 yX4_tell wsX4_tell) := goodIn_app (goodIn_of _ (by decide +kernel)) ggX4_takeBack_X4_tell
theorem dX4_takeBack_0 : decode cX4_takeBack 0 = .ok (.aload_n 0, 1) := by decide +kernel
theorem dX4_takeBack_1 : decode cX4_takeBack 1 = .ok (.getfield 51, 3) := by decide +kernel
theorem dX4_takeBack_4 : decode cX4_takeBack 4 = .ok (.istore_n 2, 1) := by decide +kernel
theorem dX4_takeBack_5 : decode cX4_takeBack 5 = .ok (.iconst 0, 1) := by decide +kernel
theorem dX4_takeBack_6 : decode cX4_takeBack 6 = .ok (.iload_n 2, 1) := by decide +kernel
theorem dX4_takeBack_7 : decode cX4_takeBack 7 = .ok (.iload_n 1, 1) := by decide +kernel
theorem dX4_takeBack_8 : decode cX4_takeBack 8 = .ok (.isub, 1) := by decide +kernel
theorem dX4_takeBack_9 : decode cX4_takeBack 9 = .ok (.invokestatic 91, 3) := by decide +kernel
theorem dX4_takeBack_12 : decode cX4_takeBack 12 = .ok (.istore_n 3, 1) := by decide +kernel
theorem dX4_takeBack_13 : decode cX4_takeBack 13 = .ok (.aload_n 0, 1) := by decide +kernel
theorem dX4_takeBack_14 : decode cX4_takeBack 14 = .ok (.invokevirtual 38, 3) := by decide +kernel
theorem dX4_takeBack_17 : decode cX4_takeBack 17 = .ok (.iconst 0, 1) := by decide +kernel
theorem dX4_takeBack_18 : decode cX4_takeBack 18 = .ok (.istore 4, 2) := by decide +kernel
theorem dX4_takeBack_20 : decode cX4_takeBack 20 = .ok (.iload 4, 2) := by decide +kernel
theorem dX4_takeBack_22 : decode cX4_takeBack 22 = .ok (.iload_n 3, 1) := by decide +kernel
theorem dX4_takeBack_23 : decode cX4_takeBack 23 = .ok (.if_icmp .ge 38, 3) := by decide +kernel
theorem dX4_takeBack_26 : decode cX4_takeBack 26 = .ok (.iload 4, 2) := by decide +kernel
theorem dX4_takeBack_28 : decode cX4_takeBack 28 = .ok (.aload_n 0, 1) := by decide +kernel
theorem dX4_takeBack_29 : decode cX4_takeBack 29 = .ok (.getfield 9, 3) := by decide +kernel
theorem dX4_takeBack_32 : decode cX4_takeBack 32 = .ok (.arraylength, 1) := by decide +kernel
theorem dX4_takeBack_33 : decode cX4_takeBack 33 = .ok (.if_icmp .ge 28, 3) := by decide +kernel
theorem dX4_takeBack_36 : decode cX4_takeBack 36 = .ok (.aload_n 0, 1) := by decide +kernel
theorem dX4_takeBack_37 : decode cX4_takeBack 37 = .ok (.aload_n 0, 1) := by decide +kernel
theorem dX4_takeBack_38 : decode cX4_takeBack 38 = .ok (.getfield 9, 3) := by decide +kernel
theorem dX4_takeBack_41 : decode cX4_takeBack 41 = .ok (.iload 4, 2) := by decide +kernel
theorem dX4_takeBack_43 : decode cX4_takeBack 43 = .ok (.baload, 1) := by decide +kernel
theorem dX4_takeBack_44 : decode cX4_takeBack 44 = .ok (.ifCond .eq 7, 3) := by decide +kernel
theorem dX4_takeBack_47 : decode cX4_takeBack 47 = .ok (.iconst 0, 1) := by decide +kernel
theorem dX4_takeBack_48 : decode cX4_takeBack 48 = .ok (.goto 4, 3) := by decide +kernel
theorem dX4_takeBack_51 : decode cX4_takeBack 51 = .ok (.iconst 1, 1) := by decide +kernel
theorem dX4_takeBack_52 : decode cX4_takeBack 52 = .ok (.invokevirtual 96, 3) := by decide +kernel
theorem dX4_takeBack_55 : decode cX4_takeBack 55 = .ok (.iinc 4 1, 3) := by decide +kernel
theorem dX4_takeBack_58 : decode cX4_takeBack 58 = .ok (.goto (-38), 3) := by decide +kernel
theorem dX4_takeBack_61 : decode cX4_takeBack 61 = .ok (.iload_n 2, 1) := by decide +kernel
theorem dX4_takeBack_62 : decode cX4_takeBack 62 = .ok (.iload_n 3, 1) := by decide +kernel
theorem dX4_takeBack_63 : decode cX4_takeBack 63 = .ok (.isub, 1) := by decide +kernel
theorem dX4_takeBack_64 : decode cX4_takeBack 64 = .ok (.ireturn, 1) := by decide +kernel
set_option maxRecDepth 20000 in
theorem ggX4_matchWinner_X5_matchWinner : GoodIn wsX4_matchWinner wsX5_matchWinner := goodIn_r _ [9, 10, 11, 12, 8, 13, 26, 27, 28, 29, 30, 31, 32] (by decide +kernel) (by decide +kernel)
set_option maxRecDepth 20000 in
theorem gX4_matchWinner_X5_matchWinner : GoodIn wsX4_matchWinner (wsV RX4 99 RX5 yX5_matchWinner wsX5_matchWinner) := goodIn_app (goodIn_of _ (by decide +kernel)) ggX4_matchWinner_X5_matchWinner
theorem dX4_matchWinner_0 : decode cX4_matchWinner 0 = .ok (.aload_n 0, 1) := by decide +kernel
theorem dX4_matchWinner_1 : decode cX4_matchWinner 1 = .ok (.getfield 34, 3) := by decide +kernel
theorem dX4_matchWinner_4 : decode cX4_matchWinner 4 = .ok (.aload_n 0, 1) := by decide +kernel
theorem dX4_matchWinner_5 : decode cX4_matchWinner 5 = .ok (.getfield 25, 3) := by decide +kernel
theorem dX4_matchWinner_8 : decode cX4_matchWinner 8 = .ok (.getfield 77, 3) := by decide +kernel
theorem dX4_matchWinner_11 : decode cX4_matchWinner 11 = .ok (.aload_n 0, 1) := by decide +kernel
theorem dX4_matchWinner_12 : decode cX4_matchWinner 12 = .ok (.getfield 25, 3) := by decide +kernel
theorem dX4_matchWinner_15 : decode cX4_matchWinner 15 = .ok (.getfield 67, 3) := by decide +kernel
theorem dX4_matchWinner_18 : decode cX4_matchWinner 18 = .ok (.invokevirtual 99, 3) := by decide +kernel
theorem dX4_matchWinner_21 : decode cX4_matchWinner 21 = .ok (.istore_n 1, 1) := by decide +kernel
theorem dX4_matchWinner_22 : decode cX4_matchWinner 22 = .ok (.iload_n 1, 1) := by decide +kernel
theorem dX4_matchWinner_23 : decode cX4_matchWinner 23 = .ok (.ifCond .ne 8, 3) := by decide +kernel
theorem dX4_matchWinner_26 : decode cX4_matchWinner 26 = .ok (.bipush (-9), 2) := by decide +kernel
theorem dX4_matchWinner_28 : decode cX4_matchWinner 28 = .ok (.goto 13, 3) := by decide +kernel
theorem dX4_matchWinner_31 : decode cX4_matchWinner 31 = .ok (.iload_n 1, 1) := by decide +kernel
theorem dX4_matchWinner_32 : decode cX4_matchWinner 32 = .ok (.iconst 1, 1) := by decide +kernel
theorem dX4_matchWinner_33 : decode cX4_matchWinner 33 = .ok (.if_icmp .ne 7, 3) := by decide +kernel
theorem dX4_matchWinner_36 : decode cX4_matchWinner 36 = .ok (.iconst 0, 1) := by decide +kernel
theorem dX4_matchWinner_37 : decode cX4_matchWinner 37 = .ok (.goto 4, 3) := by decide +kernel
theorem dX4_matchWinner_40 : decode cX4_matchWinner 40 = .ok (.iconst 1, 1) := by decide +kernel
theorem dX4_matchWinner_41 : decode cX4_matchWinner 41 = .ok (.ireturn, 1) := by decide +kernel
set_option maxRecDepth 20000 in
theorem ggX4_told_X4_pointsOfA : GoodIn wsX4_told wsX4_pointsOfA := goodIn_r _ [14, 1, 4, 15, 6, 16, 17, 18, 19, 20, 21, 34, 35, 36, 37, 38, 39, 40, 41, 42, 43, 44, 45, 46, 47, 48, 49, 50, 51, 52] (by decide +kernel) (by decide +kernel)
set_option maxRecDepth 20000 in
theorem gX4_told_X4_pointsOfA : GoodIn wsX4_told (wsV RX4 63 RX4 yX4_pointsOfA wsX4_pointsOfA) := goodIn_app (goodIn_of _ (by decide +kernel)) ggX4_told_X4_pointsOfA
set_option maxRecDepth 20000 in
theorem ggX4_told_X4_matchWinner : GoodIn wsX4_told wsX4_matchWinner := goodIn_r _ [25, 15, 5, 4, 2, 26, 27, 28, 19, 29, 30, 31, 32, 33, 34, 35, 36, 37, 38, 39, 40, 41, 42, 43, 44, 45, 46, 47, 48, 49, 50, 51, 52] (by decide +kernel) (by decide +kernel)
set_option maxRecDepth 20000 in
theorem gX4_told_X4_matchWinner : GoodIn wsX4_told (wsV RX4 102 RX4 yX4_matchWinner wsX4_matchWinner) := goodIn_app (goodIn_of _ (by decide +kernel)) ggX4_told_X4_matchWinner
theorem dX4_told_0 : decode cX4_told 0 = .ok (.iload_n 1, 1) := by decide +kernel
theorem dX4_told_1 : decode cX4_told 1 = .ok (.tableswitch 159 0 12 #[67, 72, 80, 88, 96, 104, 112, 117, 122, 130, 138, 146, 154], 67) := by decide +kernel
theorem dX4_told_68 : decode cX4_told 68 = .ok (.aload_n 0, 1) := by decide +kernel
theorem dX4_told_69 : decode cX4_told 69 = .ok (.invokevirtual 63, 3) := by decide +kernel
theorem dX4_told_72 : decode cX4_told 72 = .ok (.ireturn, 1) := by decide +kernel
theorem dX4_told_73 : decode cX4_told 73 = .ok (.aload_n 0, 1) := by decide +kernel
theorem dX4_told_74 : decode cX4_told 74 = .ok (.getfield 18, 3) := by decide +kernel
theorem dX4_told_77 : decode cX4_told 77 = .ok (.getfield 67, 3) := by decide +kernel
theorem dX4_told_80 : decode cX4_told 80 = .ok (.ireturn, 1) := by decide +kernel
theorem dX4_told_81 : decode cX4_told 81 = .ok (.aload_n 0, 1) := by decide +kernel
theorem dX4_told_82 : decode cX4_told 82 = .ok (.getfield 22, 3) := by decide +kernel
theorem dX4_told_85 : decode cX4_told 85 = .ok (.getfield 77, 3) := by decide +kernel
theorem dX4_told_88 : decode cX4_told 88 = .ok (.ireturn, 1) := by decide +kernel
theorem dX4_told_89 : decode cX4_told 89 = .ok (.aload_n 0, 1) := by decide +kernel
theorem dX4_told_90 : decode cX4_told 90 = .ok (.getfield 22, 3) := by decide +kernel
theorem dX4_told_93 : decode cX4_told 93 = .ok (.getfield 67, 3) := by decide +kernel
theorem dX4_told_96 : decode cX4_told 96 = .ok (.ireturn, 1) := by decide +kernel
theorem dX4_told_97 : decode cX4_told 97 = .ok (.aload_n 0, 1) := by decide +kernel
theorem dX4_told_98 : decode cX4_told 98 = .ok (.getfield 25, 3) := by decide +kernel
theorem dX4_told_101 : decode cX4_told 101 = .ok (.getfield 77, 3) := by decide +kernel
theorem dX4_told_104 : decode cX4_told 104 = .ok (.ireturn, 1) := by decide +kernel
theorem dX4_told_105 : decode cX4_told 105 = .ok (.aload_n 0, 1) := by decide +kernel
theorem dX4_told_106 : decode cX4_told 106 = .ok (.getfield 25, 3) := by decide +kernel
theorem dX4_told_109 : decode cX4_told 109 = .ok (.getfield 67, 3) := by decide +kernel
theorem dX4_told_112 : decode cX4_told 112 = .ok (.ireturn, 1) := by decide +kernel
theorem dX4_told_113 : decode cX4_told 113 = .ok (.aload_n 0, 1) := by decide +kernel
theorem dX4_told_114 : decode cX4_told 114 = .ok (.getfield 48, 3) := by decide +kernel
theorem dX4_told_117 : decode cX4_told 117 = .ok (.ireturn, 1) := by decide +kernel
theorem dX4_told_118 : decode cX4_told 118 = .ok (.aload_n 0, 1) := by decide +kernel
theorem dX4_told_119 : decode cX4_told 119 = .ok (.getfield 51, 3) := by decide +kernel
theorem dX4_told_122 : decode cX4_told 122 = .ok (.ireturn, 1) := by decide +kernel
theorem dX4_told_123 : decode cX4_told 123 = .ok (.aload_n 0, 1) := by decide +kernel
theorem dX4_told_124 : decode cX4_told 124 = .ok (.getfield 28, 3) := by decide +kernel
theorem dX4_told_127 : decode cX4_told 127 = .ok (.getfield 77, 3) := by decide +kernel
theorem dX4_told_130 : decode cX4_told 130 = .ok (.ireturn, 1) := by decide +kernel
theorem dX4_told_131 : decode cX4_told 131 = .ok (.aload_n 0, 1) := by decide +kernel
theorem dX4_told_132 : decode cX4_told 132 = .ok (.getfield 28, 3) := by decide +kernel
theorem dX4_told_135 : decode cX4_told 135 = .ok (.getfield 67, 3) := by decide +kernel
theorem dX4_told_138 : decode cX4_told 138 = .ok (.ireturn, 1) := by decide +kernel
theorem dX4_told_139 : decode cX4_told 139 = .ok (.aload_n 0, 1) := by decide +kernel
theorem dX4_told_140 : decode cX4_told 140 = .ok (.getfield 31, 3) := by decide +kernel
theorem dX4_told_143 : decode cX4_told 143 = .ok (.getfield 77, 3) := by decide +kernel
theorem dX4_told_146 : decode cX4_told 146 = .ok (.ireturn, 1) := by decide +kernel
theorem dX4_told_147 : decode cX4_told 147 = .ok (.aload_n 0, 1) := by decide +kernel
theorem dX4_told_148 : decode cX4_told 148 = .ok (.getfield 31, 3) := by decide +kernel
theorem dX4_told_151 : decode cX4_told 151 = .ok (.getfield 67, 3) := by decide +kernel
theorem dX4_told_154 : decode cX4_told 154 = .ok (.ireturn, 1) := by decide +kernel
theorem dX4_told_155 : decode cX4_told 155 = .ok (.aload_n 0, 1) := by decide +kernel
theorem dX4_told_156 : decode cX4_told 156 = .ok (.invokevirtual 102, 3) := by decide +kernel
theorem dX4_told_159 : decode cX4_told 159 = .ok (.ireturn, 1) := by decide +kernel
theorem dX4_told_160 : decode cX4_told 160 = .ok (.iconst (-1), 1) := by decide +kernel
theorem dX4_told_161 : decode cX4_told 161 = .ok (.ireturn, 1) := by decide +kernel
theorem dX5_init_0 : decode cX5_init 0 = .ok (.aload_n 0, 1) := by decide +kernel
theorem dX5_init_1 : decode cX5_init 1 = .ok (.invokespecial 3, 3) := by decide +kernel
theorem dX5_init_4 : decode cX5_init 4 = .ok (.aload_n 0, 1) := by decide +kernel
theorem dX5_init_5 : decode cX5_init 5 = .ok (.bipush 6, 2) := by decide +kernel
theorem dX5_init_7 : decode cX5_init 7 = .ok (.putfield 9, 3) := by decide +kernel
theorem dX5_init_10 : decode cX5_init 10 = .ok (.aload_n 0, 1) := by decide +kernel
theorem dX5_init_11 : decode cX5_init 11 = .ok (.iconst 4, 1) := by decide +kernel
theorem dX5_init_12 : decode cX5_init 12 = .ok (.putfield 15, 3) := by decide +kernel
theorem dX5_init_15 : decode cX5_init 15 = .ok (.aload_n 0, 1) := by decide +kernel
theorem dX5_init_16 : decode cX5_init 16 = .ok (.iconst 4, 1) := by decide +kernel
theorem dX5_init_17 : decode cX5_init 17 = .ok (.putfield 18, 3) := by decide +kernel
theorem dX5_init_20 : decode cX5_init 20 = .ok (.aload_n 0, 1) := by decide +kernel
theorem dX5_init_21 : decode cX5_init 21 = .ok (.bipush 6, 2) := by decide +kernel
theorem dX5_init_23 : decode cX5_init 23 = .ok (.putfield 21, 3) := by decide +kernel
theorem dX5_init_26 : decode cX5_init 26 = .ok (.aload_n 0, 1) := by decide +kernel
theorem dX5_init_27 : decode cX5_init 27 = .ok (.iconst 2, 1) := by decide +kernel
theorem dX5_init_28 : decode cX5_init 28 = .ok (.putfield 24, 3) := by decide +kernel
theorem dX5_init_31 : decode cX5_init 31 = .ok (.aload_n 0, 1) := by decide +kernel
theorem dX5_init_32 : decode cX5_init 32 = .ok (.iconst 0, 1) := by decide +kernel
theorem dX5_init_33 : decode cX5_init 33 = .ok (.putfield 27, 3) := by decide +kernel
theorem dX5_init_36 : decode cX5_init 36 = .ok (.aload_n 0, 1) := by decide +kernel
theorem dX5_init_37 : decode cX5_init 37 = .ok (.iconst 0, 1) := by decide +kernel
theorem dX5_init_38 : decode cX5_init 38 = .ok (.putfield 30, 3) := by decide +kernel
theorem dX5_init_41 : decode cX5_init 41 = .ok (.return_, 1) := by decide +kernel
set_option maxRecDepth 20000 in
theorem ggX5_allows_X6_within : GoodIn wsX5_allows wsX6_within := goodIn_r _ [8] (by decide +kernel) (by decide +kernel)
set_option maxRecDepth 20000 in
theorem gX5_allows_X6_within_n33 : GoodIn wsX5_allows (wsX6_within) := ggX5_allows_X6_within
theorem dX5_allows_0 : decode cX5_allows 0 = .ok (.iload_n 1, 1) := by decide +kernel
theorem dX5_allows_1 : decode cX5_allows 1 = .ok (.tableswitch 96 0 6 #[43, 43, 51, 58, 66, 73, 89], 43) := by decide +kernel
theorem dX5_allows_44 : decode cX5_allows 44 = .ok (.iload_n 2, 1) := by decide +kernel
theorem dX5_allows_45 : decode cX5_allows 45 = .ok (.iconst 1, 1) := by decide +kernel
theorem dX5_allows_46 : decode cX5_allows 46 = .ok (.bipush 9, 2) := by decide +kernel
theorem dX5_allows_48 : decode cX5_allows 48 = .ok (.invokestatic 33, 3) := by decide +kernel
theorem dX5_allows_51 : decode cX5_allows 51 = .ok (.ireturn, 1) := by decide +kernel
theorem dX5_allows_52 : decode cX5_allows 52 = .ok (.iload_n 2, 1) := by decide +kernel
theorem dX5_allows_53 : decode cX5_allows 53 = .ok (.iconst 1, 1) := by decide +kernel
theorem dX5_allows_54 : decode cX5_allows 54 = .ok (.iconst 5, 1) := by decide +kernel
theorem dX5_allows_55 : decode cX5_allows 55 = .ok (.invokestatic 33, 3) := by decide +kernel
theorem dX5_allows_58 : decode cX5_allows 58 = .ok (.ireturn, 1) := by decide +kernel
theorem dX5_allows_59 : decode cX5_allows 59 = .ok (.iload_n 2, 1) := by decide +kernel
theorem dX5_allows_60 : decode cX5_allows 60 = .ok (.iconst 1, 1) := by decide +kernel
theorem dX5_allows_61 : decode cX5_allows 61 = .ok (.bipush 6, 2) := by decide +kernel
theorem dX5_allows_63 : decode cX5_allows 63 = .ok (.invokestatic 33, 3) := by decide +kernel
theorem dX5_allows_66 : decode cX5_allows 66 = .ok (.ireturn, 1) := by decide +kernel
theorem dX5_allows_67 : decode cX5_allows 67 = .ok (.iload_n 2, 1) := by decide +kernel
theorem dX5_allows_68 : decode cX5_allows 68 = .ok (.iconst 1, 1) := by decide +kernel
theorem dX5_allows_69 : decode cX5_allows 69 = .ok (.iconst 3, 1) := by decide +kernel
theorem dX5_allows_70 : decode cX5_allows 70 = .ok (.invokestatic 33, 3) := by decide +kernel
theorem dX5_allows_73 : decode cX5_allows 73 = .ok (.ireturn, 1) := by decide +kernel
theorem dX5_allows_74 : decode cX5_allows 74 = .ok (.iload_n 2, 1) := by decide +kernel
theorem dX5_allows_75 : decode cX5_allows 75 = .ok (.iconst 0, 1) := by decide +kernel
theorem dX5_allows_76 : decode cX5_allows 76 = .ok (.iconst 0, 1) := by decide +kernel
theorem dX5_allows_77 : decode cX5_allows 77 = .ok (.aload_n 0, 1) := by decide +kernel
theorem dX5_allows_78 : decode cX5_allows 78 = .ok (.getfield 18, 3) := by decide +kernel
theorem dX5_allows_81 : decode cX5_allows 81 = .ok (.iconst 2, 1) := by decide +kernel
theorem dX5_allows_82 : decode cX5_allows 82 = .ok (.isub, 1) := by decide +kernel
theorem dX5_allows_83 : decode cX5_allows 83 = .ok (.invokestatic 37, 3) := by decide +kernel
theorem dX5_allows_86 : decode cX5_allows 86 = .ok (.invokestatic 33, 3) := by decide +kernel
theorem dX5_allows_89 : decode cX5_allows 89 = .ok (.ireturn, 1) := by decide +kernel
theorem dX5_allows_90 : decode cX5_allows 90 = .ok (.iload_n 2, 1) := by decide +kernel
theorem dX5_allows_91 : decode cX5_allows 91 = .ok (.iconst 0, 1) := by decide +kernel
theorem dX5_allows_92 : decode cX5_allows 92 = .ok (.iconst 2, 1) := by decide +kernel
theorem dX5_allows_93 : decode cX5_allows 93 = .ok (.invokestatic 33, 3) := by decide +kernel
theorem dX5_allows_96 : decode cX5_allows 96 = .ok (.ireturn, 1) := by decide +kernel
theorem dX5_allows_97 : decode cX5_allows 97 = .ok (.iconst 0, 1) := by decide +kernel
theorem dX5_allows_98 : decode cX5_allows 98 = .ok (.ireturn, 1) := by decide +kernel
theorem dX5_told_0 : decode cX5_told 0 = .ok (.iload_n 1, 1) := by decide +kernel
theorem dX5_told_1 : decode cX5_told 1 = .ok (.tableswitch 78 0 6 #[43, 48, 53, 58, 63, 68, 73], 43) := by decide +kernel
theorem dX5_told_44 : decode cX5_told 44 = .ok (.aload_n 0, 1) := by decide +kernel
theorem dX5_told_45 : decode cX5_told 45 = .ok (.getfield 9, 3) := by decide +kernel
theorem dX5_told_48 : decode cX5_told 48 = .ok (.ireturn, 1) := by decide +kernel
theorem dX5_told_49 : decode cX5_told 49 = .ok (.aload_n 0, 1) := by decide +kernel
theorem dX5_told_50 : decode cX5_told 50 = .ok (.getfield 15, 3) := by decide +kernel
theorem dX5_told_53 : decode cX5_told 53 = .ok (.ireturn, 1) := by decide +kernel
theorem dX5_told_54 : decode cX5_told 54 = .ok (.aload_n 0, 1) := by decide +kernel
theorem dX5_told_55 : decode cX5_told 55 = .ok (.getfield 18, 3) := by decide +kernel
theorem dX5_told_58 : decode cX5_told 58 = .ok (.ireturn, 1) := by decide +kernel
theorem dX5_told_59 : decode cX5_told 59 = .ok (.aload_n 0, 1) := by decide +kernel
theorem dX5_told_60 : decode cX5_told 60 = .ok (.getfield 21, 3) := by decide +kernel
theorem dX5_told_63 : decode cX5_told 63 = .ok (.ireturn, 1) := by decide +kernel
theorem dX5_told_64 : decode cX5_told 64 = .ok (.aload_n 0, 1) := by decide +kernel
theorem dX5_told_65 : decode cX5_told 65 = .ok (.getfield 24, 3) := by decide +kernel
theorem dX5_told_68 : decode cX5_told 68 = .ok (.ireturn, 1) := by decide +kernel
theorem dX5_told_69 : decode cX5_told 69 = .ok (.aload_n 0, 1) := by decide +kernel
theorem dX5_told_70 : decode cX5_told 70 = .ok (.getfield 27, 3) := by decide +kernel
theorem dX5_told_73 : decode cX5_told 73 = .ok (.ireturn, 1) := by decide +kernel
theorem dX5_told_74 : decode cX5_told 74 = .ok (.aload_n 0, 1) := by decide +kernel
theorem dX5_told_75 : decode cX5_told 75 = .ok (.getfield 30, 3) := by decide +kernel
theorem dX5_told_78 : decode cX5_told 78 = .ok (.ireturn, 1) := by decide +kernel
theorem dX5_told_79 : decode cX5_told 79 = .ok (.iconst (-1), 1) := by decide +kernel
theorem dX5_told_80 : decode cX5_told 80 = .ok (.ireturn, 1) := by decide +kernel
theorem dX5_tell_0 : decode cX5_tell 0 = .ok (.iload_n 1, 1) := by decide +kernel
theorem dX5_tell_1 : decode cX5_tell 1 = .ok (.tableswitch 104 0 6 #[43, 51, 59, 72, 80, 88, 96], 43) := by decide +kernel
theorem dX5_tell_44 : decode cX5_tell 44 = .ok (.aload_n 0, 1) := by decide +kernel
theorem dX5_tell_45 : decode cX5_tell 45 = .ok (.iload_n 2, 1) := by decide +kernel
theorem dX5_tell_46 : decode cX5_tell 46 = .ok (.putfield 9, 3) := by decide +kernel
theorem dX5_tell_49 : decode cX5_tell 49 = .ok (.goto 56, 3) := by decide +kernel
theorem dX5_tell_52 : decode cX5_tell 52 = .ok (.aload_n 0, 1) := by decide +kernel
theorem dX5_tell_53 : decode cX5_tell 53 = .ok (.iload_n 2, 1) := by decide +kernel
theorem dX5_tell_54 : decode cX5_tell 54 = .ok (.putfield 15, 3) := by decide +kernel
theorem dX5_tell_57 : decode cX5_tell 57 = .ok (.goto 48, 3) := by decide +kernel
theorem dX5_tell_60 : decode cX5_tell 60 = .ok (.aload_n 0, 1) := by decide +kernel
theorem dX5_tell_61 : decode cX5_tell 61 = .ok (.iload_n 2, 1) := by decide +kernel
theorem dX5_tell_62 : decode cX5_tell 62 = .ok (.putfield 18, 3) := by decide +kernel
theorem dX5_tell_65 : decode cX5_tell 65 = .ok (.aload_n 0, 1) := by decide +kernel
theorem dX5_tell_66 : decode cX5_tell 66 = .ok (.iconst 0, 1) := by decide +kernel
theorem dX5_tell_67 : decode cX5_tell 67 = .ok (.putfield 27, 3) := by decide +kernel
theorem dX5_tell_70 : decode cX5_tell 70 = .ok (.goto 35, 3) := by decide +kernel
theorem dX5_tell_73 : decode cX5_tell 73 = .ok (.aload_n 0, 1) := by decide +kernel
theorem dX5_tell_74 : decode cX5_tell 74 = .ok (.iload_n 2, 1) := by decide +kernel
theorem dX5_tell_75 : decode cX5_tell 75 = .ok (.putfield 21, 3) := by decide +kernel
theorem dX5_tell_78 : decode cX5_tell 78 = .ok (.goto 27, 3) := by decide +kernel
theorem dX5_tell_81 : decode cX5_tell 81 = .ok (.aload_n 0, 1) := by decide +kernel
theorem dX5_tell_82 : decode cX5_tell 82 = .ok (.iload_n 2, 1) := by decide +kernel
theorem dX5_tell_83 : decode cX5_tell 83 = .ok (.putfield 24, 3) := by decide +kernel
theorem dX5_tell_86 : decode cX5_tell 86 = .ok (.goto 19, 3) := by decide +kernel
theorem dX5_tell_89 : decode cX5_tell 89 = .ok (.aload_n 0, 1) := by decide +kernel
theorem dX5_tell_90 : decode cX5_tell 90 = .ok (.iload_n 2, 1) := by decide +kernel
theorem dX5_tell_91 : decode cX5_tell 91 = .ok (.putfield 27, 3) := by decide +kernel
theorem dX5_tell_94 : decode cX5_tell 94 = .ok (.goto 11, 3) := by decide +kernel
theorem dX5_tell_97 : decode cX5_tell 97 = .ok (.aload_n 0, 1) := by decide +kernel
theorem dX5_tell_98 : decode cX5_tell 98 = .ok (.iload_n 2, 1) := by decide +kernel
theorem dX5_tell_99 : decode cX5_tell 99 = .ok (.putfield 30, 3) := by decide +kernel
theorem dX5_tell_102 : decode cX5_tell 102 = .ok (.goto 3, 3) := by decide +kernel
theorem dX5_tell_105 : decode cX5_tell 105 = .ok (.return_, 1) := by decide +kernel
theorem dX5_tenthsOfA_0 : decode cX5_tenthsOfA 0 = .ok (.iload_n 1, 1) := by decide +kernel
theorem dX5_tenthsOfA_1 : decode cX5_tenthsOfA 1 = .ok (.ifCond .ne 10, 3) := by decide +kernel
theorem dX5_tenthsOfA_4 : decode cX5_tenthsOfA 4 = .ok (.aload_n 0, 1) := by decide +kernel
theorem dX5_tenthsOfA_5 : decode cX5_tenthsOfA 5 = .ok (.getfield 9, 3) := by decide +kernel
theorem dX5_tenthsOfA_8 : decode cX5_tenthsOfA 8 = .ok (.goto 7, 3) := by decide +kernel
theorem dX5_tenthsOfA_11 : decode cX5_tenthsOfA 11 = .ok (.aload_n 0, 1) := by decide +kernel
theorem dX5_tenthsOfA_12 : decode cX5_tenthsOfA 12 = .ok (.getfield 15, 3) := by decide +kernel
theorem dX5_tenthsOfA_15 : decode cX5_tenthsOfA 15 = .ok (.ireturn, 1) := by decide +kernel
theorem dX5_headStartOfA_0 : decode cX5_headStartOfA 0 = .ok (.iload_n 1, 1) := by decide +kernel
theorem dX5_headStartOfA_1 : decode cX5_headStartOfA 1 = .ok (.ifCond .ne 10, 3) := by decide +kernel
theorem dX5_headStartOfA_4 : decode cX5_headStartOfA 4 = .ok (.aload_n 0, 1) := by decide +kernel
theorem dX5_headStartOfA_5 : decode cX5_headStartOfA 5 = .ok (.getfield 27, 3) := by decide +kernel
theorem dX5_headStartOfA_8 : decode cX5_headStartOfA 8 = .ok (.goto 4, 3) := by decide +kernel
theorem dX5_headStartOfA_11 : decode cX5_headStartOfA 11 = .ok (.iconst 0, 1) := by decide +kernel
theorem dX5_headStartOfA_12 : decode cX5_headStartOfA 12 = .ok (.ireturn, 1) := by decide +kernel
set_option maxRecDepth 20000 in
theorem ggX5_gameWinner_X5_leader : GoodIn wsX5_gameWinner wsX5_leader := goodIn_r _ [12] (by decide +kernel) (by decide +kernel)
set_option maxRecDepth 20000 in
theorem gX5_gameWinner_X5_leader : GoodIn wsX5_gameWinner (va_wsS RX5 46 yX5_leader wsX5_leader) := goodIn_app (goodIn_of _ (by decide +kernel)) ggX5_gameWinner_X5_leader
theorem dX5_gameWinner_0 : decode cX5_gameWinner 0 = .ok (.iload_n 2, 1) := by decide +kernel
theorem dX5_gameWinner_1 : decode cX5_gameWinner 1 = .ok (.iload_n 3, 1) := by decide +kernel
theorem dX5_gameWinner_2 : decode cX5_gameWinner 2 = .ok (.invokestatic 37, 3) := by decide +kernel
theorem dX5_gameWinner_5 : decode cX5_gameWinner 5 = .ok (.istore 4, 2) := by decide +kernel
theorem dX5_gameWinner_7 : decode cX5_gameWinner 7 = .ok (.iload_n 2, 1) := by decide +kernel
theorem dX5_gameWinner_8 : decode cX5_gameWinner 8 = .ok (.iload_n 3, 1) := by decide +kernel
theorem dX5_gameWinner_9 : decode cX5_gameWinner 9 = .ok (.invokestatic 43, 3) := by decide +kernel
theorem dX5_gameWinner_12 : decode cX5_gameWinner 12 = .ok (.istore 5, 2) := by decide +kernel
theorem dX5_gameWinner_14 : decode cX5_gameWinner 14 = .ok (.iload 4, 2) := by decide +kernel
theorem dX5_gameWinner_16 : decode cX5_gameWinner 16 = .ok (.aload_n 0, 1) := by decide +kernel
theorem dX5_gameWinner_17 : decode cX5_gameWinner 17 = .ok (.getfield 18, 3) := by decide +kernel
theorem dX5_gameWinner_20 : decode cX5_gameWinner 20 = .ok (.if_icmp .lt 16, 3) := by decide +kernel
theorem dX5_gameWinner_23 : decode cX5_gameWinner 23 = .ok (.iload 4, 2) := by decide +kernel
theorem dX5_gameWinner_25 : decode cX5_gameWinner 25 = .ok (.iload 5, 2) := by decide +kernel
theorem dX5_gameWinner_27 : decode cX5_gameWinner 27 = .ok (.isub, 1) := by decide +kernel
theorem dX5_gameWinner_28 : decode cX5_gameWinner 28 = .ok (.iconst 2, 1) := by decide +kernel
theorem dX5_gameWinner_29 : decode cX5_gameWinner 29 = .ok (.if_icmp .lt 7, 3) := by decide +kernel
theorem dX5_gameWinner_32 : decode cX5_gameWinner 32 = .ok (.iconst 1, 1) := by decide +kernel
theorem dX5_gameWinner_33 : decode cX5_gameWinner 33 = .ok (.goto 4, 3) := by decide +kernel
theorem dX5_gameWinner_36 : decode cX5_gameWinner 36 = .ok (.iconst 0, 1) := by decide +kernel
theorem dX5_gameWinner_37 : decode cX5_gameWinner 37 = .ok (.istore 6, 2) := by decide +kernel
theorem dX5_gameWinner_39 : decode cX5_gameWinner 39 = .ok (.iload_n 1, 1) := by decide +kernel
theorem dX5_gameWinner_40 : decode cX5_gameWinner 40 = .ok (.iconst 1, 1) := by decide +kernel
theorem dX5_gameWinner_41 : decode cX5_gameWinner 41 = .ok (.if_icmp .lt 31, 3) := by decide +kernel
theorem dX5_gameWinner_44 : decode cX5_gameWinner 44 = .ok (.iload 6, 2) := by decide +kernel
theorem dX5_gameWinner_46 : decode cX5_gameWinner 46 = .ok (.ifCond .ne 19, 3) := by decide +kernel
theorem dX5_gameWinner_49 : decode cX5_gameWinner 49 = .ok (.iload 4, 2) := by decide +kernel
theorem dX5_gameWinner_51 : decode cX5_gameWinner 51 = .ok (.aload_n 0, 1) := by decide +kernel
theorem dX5_gameWinner_52 : decode cX5_gameWinner 52 = .ok (.getfield 18, 3) := by decide +kernel
theorem dX5_gameWinner_55 : decode cX5_gameWinner 55 = .ok (.if_icmp .lt 14, 3) := by decide +kernel
theorem dX5_gameWinner_58 : decode cX5_gameWinner 58 = .ok (.iload 4, 2) := by decide +kernel
theorem dX5_gameWinner_60 : decode cX5_gameWinner 60 = .ok (.iload 5, 2) := by decide +kernel
theorem dX5_gameWinner_62 : decode cX5_gameWinner 62 = .ok (.if_icmp .le 7, 3) := by decide +kernel
theorem dX5_gameWinner_65 : decode cX5_gameWinner 65 = .ok (.iconst 1, 1) := by decide +kernel
theorem dX5_gameWinner_66 : decode cX5_gameWinner 66 = .ok (.goto 4, 3) := by decide +kernel
theorem dX5_gameWinner_69 : decode cX5_gameWinner 69 = .ok (.iconst 0, 1) := by decide +kernel
theorem dX5_gameWinner_70 : decode cX5_gameWinner 70 = .ok (.istore 6, 2) := by decide +kernel
theorem dX5_gameWinner_72 : decode cX5_gameWinner 72 = .ok (.iload_n 1, 1) := by decide +kernel
theorem dX5_gameWinner_73 : decode cX5_gameWinner 73 = .ok (.iconst 2, 1) := by decide +kernel
theorem dX5_gameWinner_74 : decode cX5_gameWinner 74 = .ok (.if_icmp .lt 39, 3) := by decide +kernel
theorem dX5_gameWinner_77 : decode cX5_gameWinner 77 = .ok (.aload_n 0, 1) := by decide +kernel
theorem dX5_gameWinner_78 : decode cX5_gameWinner 78 = .ok (.getfield 18, 3) := by decide +kernel
theorem dX5_gameWinner_81 : decode cX5_gameWinner 81 = .ok (.iconst 3, 1) := by decide +kernel
theorem dX5_gameWinner_82 : decode cX5_gameWinner 82 = .ok (.if_icmp .lt 31, 3) := by decide +kernel
theorem dX5_gameWinner_85 : decode cX5_gameWinner 85 = .ok (.iload 6, 2) := by decide +kernel
theorem dX5_gameWinner_87 : decode cX5_gameWinner 87 = .ok (.ifCond .ne 19, 3) := by decide +kernel
theorem dX5_gameWinner_90 : decode cX5_gameWinner 90 = .ok (.iload 4, 2) := by decide +kernel
theorem dX5_gameWinner_92 : decode cX5_gameWinner 92 = .ok (.aload_n 0, 1) := by decide +kernel
theorem dX5_gameWinner_93 : decode cX5_gameWinner 93 = .ok (.getfield 18, 3) := by decide +kernel
theorem dX5_gameWinner_96 : decode cX5_gameWinner 96 = .ok (.iconst 1, 1) := by decide +kernel
theorem dX5_gameWinner_97 : decode cX5_gameWinner 97 = .ok (.isub, 1) := by decide +kernel
theorem dX5_gameWinner_98 : decode cX5_gameWinner 98 = .ok (.if_icmp .lt 12, 3) := by decide +kernel
theorem dX5_gameWinner_101 : decode cX5_gameWinner 101 = .ok (.iload 5, 2) := by decide +kernel
theorem dX5_gameWinner_103 : decode cX5_gameWinner 103 = .ok (.ifCond .ne 7, 3) := by decide +kernel
theorem dX5_gameWinner_106 : decode cX5_gameWinner 106 = .ok (.iconst 1, 1) := by decide +kernel
theorem dX5_gameWinner_107 : decode cX5_gameWinner 107 = .ok (.goto 4, 3) := by decide +kernel
theorem dX5_gameWinner_110 : decode cX5_gameWinner 110 = .ok (.iconst 0, 1) := by decide +kernel
theorem dX5_gameWinner_111 : decode cX5_gameWinner 111 = .ok (.istore 6, 2) := by decide +kernel
theorem dX5_gameWinner_113 : decode cX5_gameWinner 113 = .ok (.iload 6, 2) := by decide +kernel
theorem dX5_gameWinner_115 : decode cX5_gameWinner 115 = .ok (.ifCond .eq 11, 3) := by decide +kernel
theorem dX5_gameWinner_118 : decode cX5_gameWinner 118 = .ok (.iload_n 2, 1) := by decide +kernel
theorem dX5_gameWinner_119 : decode cX5_gameWinner 119 = .ok (.iload_n 3, 1) := by decide +kernel
theorem dX5_gameWinner_120 : decode cX5_gameWinner 120 = .ok (.invokestatic 46, 3) := by decide +kernel
theorem dX5_gameWinner_123 : decode cX5_gameWinner 123 = .ok (.goto 4, 3) := by decide +kernel
theorem dX5_gameWinner_126 : decode cX5_gameWinner 126 = .ok (.iconst 0, 1) := by decide +kernel
theorem dX5_gameWinner_127 : decode cX5_gameWinner 127 = .ok (.ireturn, 1) := by decide +kernel
set_option maxRecDepth 20000 in
theorem ggX5_setWinner_X5_leader : GoodIn wsX5_setWinner wsX5_leader := goodIn_r _ [12] (by decide +kernel) (by decide +kernel)
set_option maxRecDepth 20000 in
theorem gX5_setWinner_X5_leader : GoodIn wsX5_setWinner (va_wsS RX5 46 yX5_leader wsX5_leader) := goodIn_app (goodIn_of _ (by decide +kernel)) ggX5_setWinner_X5_leader
theorem dX5_setWinner_0 : decode cX5_setWinner 0 = .ok (.iload_n 1, 1) := by decide +kernel
theorem dX5_setWinner_1 : decode cX5_setWinner 1 = .ok (.iload_n 2, 1) := by decide +kernel
theorem dX5_setWinner_2 : decode cX5_setWinner 2 = .ok (.invokestatic 37, 3) := by decide +kernel
theorem dX5_setWinner_5 : decode cX5_setWinner 5 = .ok (.aload_n 0, 1) := by decide +kernel
theorem dX5_setWinner_6 : decode cX5_setWinner 6 = .ok (.getfield 21, 3) := by decide +kernel
theorem dX5_setWinner_9 : decode cX5_setWinner 9 = .ok (.if_icmp .lt 17, 3) := by decide +kernel
theorem dX5_setWinner_12 : decode cX5_setWinner 12 = .ok (.iload_n 1, 1) := by decide +kernel
theorem dX5_setWinner_13 : decode cX5_setWinner 13 = .ok (.iload_n 2, 1) := by decide +kernel
theorem dX5_setWinner_14 : decode cX5_setWinner 14 = .ok (.isub, 1) := by decide +kernel
theorem dX5_setWinner_15 : decode cX5_setWinner 15 = .ok (.invokestatic 49, 3) := by decide +kernel
theorem dX5_setWinner_18 : decode cX5_setWinner 18 = .ok (.iconst 2, 1) := by decide +kernel
theorem dX5_setWinner_19 : decode cX5_setWinner 19 = .ok (.if_icmp .lt 7, 3) := by decide +kernel
theorem dX5_setWinner_22 : decode cX5_setWinner 22 = .ok (.iconst 1, 1) := by decide +kernel
theorem dX5_setWinner_23 : decode cX5_setWinner 23 = .ok (.goto 4, 3) := by decide +kernel
theorem dX5_setWinner_26 : decode cX5_setWinner 26 = .ok (.iconst 0, 1) := by decide +kernel
theorem dX5_setWinner_27 : decode cX5_setWinner 27 = .ok (.istore_n 3, 1) := by decide +kernel
theorem dX5_setWinner_28 : decode cX5_setWinner 28 = .ok (.iload_n 1, 1) := by decide +kernel
theorem dX5_setWinner_29 : decode cX5_setWinner 29 = .ok (.iload_n 2, 1) := by decide +kernel
theorem dX5_setWinner_30 : decode cX5_setWinner 30 = .ok (.iadd, 1) := by decide +kernel
theorem dX5_setWinner_31 : decode cX5_setWinner 31 = .ok (.iconst 2, 1) := by decide +kernel
theorem dX5_setWinner_32 : decode cX5_setWinner 32 = .ok (.aload_n 0, 1) := by decide +kernel
theorem dX5_setWinner_33 : decode cX5_setWinner 33 = .ok (.getfield 21, 3) := by decide +kernel
theorem dX5_setWinner_36 : decode cX5_setWinner 36 = .ok (.imul, 1) := by decide +kernel
theorem dX5_setWinner_37 : decode cX5_setWinner 37 = .ok (.if_icmp .le 7, 3) := by decide +kernel
theorem dX5_setWinner_40 : decode cX5_setWinner 40 = .ok (.iconst 1, 1) := by decide +kernel
theorem dX5_setWinner_41 : decode cX5_setWinner 41 = .ok (.goto 4, 3) := by decide +kernel
theorem dX5_setWinner_44 : decode cX5_setWinner 44 = .ok (.iconst 0, 1) := by decide +kernel
theorem dX5_setWinner_45 : decode cX5_setWinner 45 = .ok (.istore 4, 2) := by decide +kernel
theorem dX5_setWinner_47 : decode cX5_setWinner 47 = .ok (.iload_n 3, 1) := by decide +kernel
theorem dX5_setWinner_48 : decode cX5_setWinner 48 = .ok (.ifCond .ne 8, 3) := by decide +kernel
theorem dX5_setWinner_51 : decode cX5_setWinner 51 = .ok (.iload 4, 2) := by decide +kernel
theorem dX5_setWinner_53 : decode cX5_setWinner 53 = .ok (.ifCond .eq 11, 3) := by decide +kernel
theorem dX5_setWinner_56 : decode cX5_setWinner 56 = .ok (.iload_n 1, 1) := by decide +kernel
theorem dX5_setWinner_57 : decode cX5_setWinner 57 = .ok (.iload_n 2, 1) := by decide +kernel
theorem dX5_setWinner_58 : decode cX5_setWinner 58 = .ok (.invokestatic 46, 3) := by decide +kernel
theorem dX5_setWinner_61 : decode cX5_setWinner 61 = .ok (.goto 4, 3) := by decide +kernel
theorem dX5_setWinner_64 : decode cX5_setWinner 64 = .ok (.iconst 0, 1) := by decide +kernel
theorem dX5_setWinner_65 : decode cX5_setWinner 65 = .ok (.ireturn, 1) := by decide +kernel
set_option maxRecDepth 20000 in
theorem ggX5_matchWinner_X5_leader : GoodIn wsX5_matchWinner wsX5_leader := goodIn_r _ [5] (by decide +kernel) (by decide +kernel)
set_option maxRecDepth 20000 in
theorem gX5_matchWinner_X5_leader : GoodIn wsX5_matchWinner (va_wsS RX5 46 yX5_leader wsX5_leader) := goodIn_app (goodIn_of _ (by decide +kernel)) ggX5_matchWinner_X5_leader
theorem dX5_matchWinner_0 : decode cX5_matchWinner 0 = .ok (.iload_n 1, 1) := by decide +kernel
theorem dX5_matchWinner_1 : decode cX5_matchWinner 1 = .ok (.aload_n 0, 1) := by decide +kernel
theorem dX5_matchWinner_2 : decode cX5_matchWinner 2 = .ok (.getfield 24, 3) := by decide +kernel
theorem dX5_matchWinner_5 : decode cX5_matchWinner 5 = .ok (.if_icmp .ge 11, 3) := by decide +kernel
theorem dX5_matchWinner_8 : decode cX5_matchWinner 8 = .ok (.iload_n 2, 1) := by decide +kernel
theorem dX5_matchWinner_9 : decode cX5_matchWinner 9 = .ok (.aload_n 0, 1) := by decide +kernel
theorem dX5_matchWinner_10 : decode cX5_matchWinner 10 = .ok (.getfield 24, 3) := by decide +kernel
theorem dX5_matchWinner_13 : decode cX5_matchWinner 13 = .ok (.if_icmp .lt 11, 3) := by decide +kernel
theorem dX5_matchWinner_16 : decode cX5_matchWinner 16 = .ok (.iload_n 1, 1) := by decide +kernel
theorem dX5_matchWinner_17 : decode cX5_matchWinner 17 = .ok (.iload_n 2, 1) := by decide +kernel
theorem dX5_matchWinner_18 : decode cX5_matchWinner 18 = .ok (.invokestatic 46, 3) := by decide +kernel
theorem dX5_matchWinner_21 : decode cX5_matchWinner 21 = .ok (.goto 4, 3) := by decide +kernel
theorem dX5_matchWinner_24 : decode cX5_matchWinner 24 = .ok (.iconst 0, 1) := by decide +kernel
theorem dX5_matchWinner_25 : decode cX5_matchWinner 25 = .ok (.ireturn, 1) := by decide +kernel
theorem dX5_leader_0 : decode cX5_leader 0 = .ok (.iload_n 0, 1) := by decide +kernel
theorem dX5_leader_1 : decode cX5_leader 1 = .ok (.iload_n 1, 1) := by decide +kernel
theorem dX5_leader_2 : decode cX5_leader 2 = .ok (.if_icmp .le 7, 3) := by decide +kernel
theorem dX5_leader_5 : decode cX5_leader 5 = .ok (.iconst 1, 1) := by decide +kernel
theorem dX5_leader_6 : decode cX5_leader 6 = .ok (.goto 13, 3) := by decide +kernel
theorem dX5_leader_9 : decode cX5_leader 9 = .ok (.iload_n 0, 1) := by decide +kernel
theorem dX5_leader_10 : decode cX5_leader 10 = .ok (.iload_n 1, 1) := by decide +kernel
theorem dX5_leader_11 : decode cX5_leader 11 = .ok (.if_icmp .ge 7, 3) := by decide +kernel
theorem dX5_leader_14 : decode cX5_leader 14 = .ok (.iconst 2, 1) := by decide +kernel
theorem dX5_leader_15 : decode cX5_leader 15 = .ok (.goto 4, 3) := by decide +kernel
theorem dX5_leader_18 : decode cX5_leader 18 = .ok (.iconst 0, 1) := by decide +kernel
theorem dX5_leader_19 : decode cX5_leader 19 = .ok (.ireturn, 1) := by decide +kernel
set_option maxRecDepth 20000 in
theorem ggX6_init_X5_init : GoodIn wsX6_init wsX5_init := goodIn_r _ [22, 23, 2, 3, 24, 25, 26, 27, 28, 29, 30, 95, 96, 97, 98, 99, 100, 101] (by decide +kernel) (by decide +kernel)
set_option maxRecDepth 20000 in
theorem gX6_init_X5_init_n9 : GoodIn wsX6_init (wsX5_init) := ggX6_init_X5_init
set_option maxRecDepth 20000 in
theorem ggX6_init_X0_init : GoodIn wsX6_init wsX0_init := goodIn_r _ [33, 34, 2, 3, 35, 36, 37, 38, 39, 40, 41, 42, 43, 44, 45, 46, 47, 48, 49, 50, 51, 52, 53, 54, 125, 126, 107, 108, 109, 110, 111, 95, 96, 97, 98, 99, 100, 101] (by decide +kernel) (by decide +kernel)
set_option maxRecDepth 20000 in
theorem gX6_init_X0_init : GoodIn wsX6_init (wsX0_init) := ggX6_init_X0_init
set_option maxRecDepth 20000 in
theorem ggX6_init_X2_init : GoodIn wsX6_init wsX2_init := goodIn_r _ [57, 58, 2, 3, 59, 36, 37, 60, 61, 62, 63, 45, 46, 47, 48, 49, 50, 51, 52, 53, 54, 125, 126, 112, 113, 114] (by decide +kernel) (by decide +kernel)
set_option maxRecDepth 20000 in
theorem gX6_init_X2_init : GoodIn wsX6_init (wsX2_init) := ggX6_init_X2_init
set_option maxRecDepth 20000 in
theorem ggX6_init_X4_init : GoodIn wsX6_init wsX4_init := goodIn_r _ [66, 67, 2, 3, 68, 69, 70, 71, 72, 73, 74, 75, 76, 77, 78, 79, 80, 81, 82, 83, 84, 18, 85, 86, 87, 88, 89, 90, 91, 92, 93, 94, 115, 116, 117, 118, 119, 120, 121, 122, 123, 124, 127, 128] (by decide +kernel) (by decide +kernel)
set_option maxRecDepth 20000 in
theorem gX6_init_X4_init : GoodIn wsX6_init (wsX4_init) := ggX6_init_X4_init
theorem dX6_init_0 : decode cX6_init 0 = .ok (.aload_n 0, 1) := by decide +kernel
theorem dX6_init_1 : decode cX6_init 1 = .ok (.invokespecial 1, 3) := by decide +kernel
theorem dX6_init_4 : decode cX6_init 4 = .ok (.aload_n 0, 1) := by decide +kernel
theorem dX6_init_5 : decode cX6_init 5 = .ok (.new 7, 3) := by decide +kernel
theorem dX6_init_8 : decode cX6_init 8 = .ok (.dup, 1) := by decide +kernel
theorem dX6_init_9 : decode cX6_init 9 = .ok (.invokespecial 9, 3) := by decide +kernel
theorem dX6_init_12 : decode cX6_init 12 = .ok (.putfield 10, 3) := by decide +kernel
theorem dX6_init_15 : decode cX6_init 15 = .ok (.aload_n 0, 1) := by decide +kernel
theorem dX6_init_16 : decode cX6_init 16 = .ok (.new 16, 3) := by decide +kernel
theorem dX6_init_19 : decode cX6_init 19 = .ok (.dup, 1) := by decide +kernel
theorem dX6_init_20 : decode cX6_init 20 = .ok (.aload_n 0, 1) := by decide +kernel
theorem dX6_init_21 : decode cX6_init 21 = .ok (.getfield 10, 3) := by decide +kernel
theorem dX6_init_24 : decode cX6_init 24 = .ok (.invokespecial 18, 3) := by decide +kernel
theorem dX6_init_27 : decode cX6_init 27 = .ok (.putfield 21, 3) := by decide +kernel
theorem dX6_init_30 : decode cX6_init 30 = .ok (.aload_n 0, 1) := by decide +kernel
theorem dX6_init_31 : decode cX6_init 31 = .ok (.new 25, 3) := by decide +kernel
theorem dX6_init_34 : decode cX6_init 34 = .ok (.dup, 1) := by decide +kernel
theorem dX6_init_35 : decode cX6_init 35 = .ok (.aload_n 0, 1) := by decide +kernel
theorem dX6_init_36 : decode cX6_init 36 = .ok (.getfield 10, 3) := by decide +kernel
theorem dX6_init_39 : decode cX6_init 39 = .ok (.invokespecial 27, 3) := by decide +kernel
theorem dX6_init_42 : decode cX6_init 42 = .ok (.putfield 28, 3) := by decide +kernel
theorem dX6_init_45 : decode cX6_init 45 = .ok (.aload_n 0, 1) := by decide +kernel
theorem dX6_init_46 : decode cX6_init 46 = .ok (.new 32, 3) := by decide +kernel
theorem dX6_init_49 : decode cX6_init 49 = .ok (.dup, 1) := by decide +kernel
theorem dX6_init_50 : decode cX6_init 50 = .ok (.aload_n 0, 1) := by decide +kernel
theorem dX6_init_51 : decode cX6_init 51 = .ok (.getfield 10, 3) := by decide +kernel
theorem dX6_init_54 : decode cX6_init 54 = .ok (.invokespecial 34, 3) := by decide +kernel
theorem dX6_init_57 : decode cX6_init 57 = .ok (.putfield 35, 3) := by decide +kernel
theorem dX6_init_60 : decode cX6_init 60 = .ok (.aload_n 0, 1) := by decide +kernel
theorem dX6_init_61 : decode cX6_init 61 = .ok (.lconst 0, 1) := by decide +kernel
theorem dX6_init_62 : decode cX6_init 62 = .ok (.putfield 39, 3) := by decide +kernel
theorem dX6_init_65 : decode cX6_init 65 = .ok (.return_, 1) := by decide +kernel
set_option maxRecDepth 20000 in
theorem ggX6_set_X5_allows : GoodIn wsX6_set wsX5_allows := goodIn_r _ [8, 9, 10, 11, 12, 13, 14, 15, 16, 46, 47, 48, 49, 50, 51, 52] (by decide +kernel) (by decide +kernel)
set_option maxRecDepth 20000 in
theorem gX6_set_X5_allows : GoodIn wsX6_set (wsV RX6 43 RX5 yX5_allows wsX5_allows) := goodIn_app (goodIn_of _ (by decide +kernel)) ggX6_set_X5_allows
set_option maxRecDepth 20000 in
theorem ggX6_set_X5_told : GoodIn wsX6_set wsX5_told := goodIn_r _ [20, 21, 22, 9, 23, 24, 25, 26, 46, 47, 48, 49, 50, 51, 52] (by decide +kernel) (by decide +kernel)
set_option maxRecDepth 20000 in
theorem gX6_set_X5_told : GoodIn wsX6_set (wsV RX6 51 RX5 yX5_told wsX5_told) := goodIn_app (goodIn_of _ (by decide +kernel)) ggX6_set_X5_told
set_option maxRecDepth 20000 in
theorem ggX6_set_X5_tell : GoodIn wsX6_set wsX5_tell := goodIn_r _ [30, 21, 22, 9, 25, 23, 24, 26, 46, 47, 48, 49, 50, 51, 52] (by decide +kernel) (by decide +kernel)
set_option maxRecDepth 20000 in
theorem gX6_set_X5_tell : GoodIn wsX6_set (wsV RX6 55 RX5 yX5_tell wsX5_tell) := goodIn_app (goodIn_of _ (by decide +kernel)) ggX6_set_X5_tell
theorem dX6_set_0 : decode cX6_set 0 = .ok (.aload_n 0, 1) := by decide +kernel
theorem dX6_set_1 : decode cX6_set 1 = .ok (.getfield 10, 3) := by decide +kernel
theorem dX6_set_4 : decode cX6_set 4 = .ok (.iload_n 1, 1) := by decide +kernel
theorem dX6_set_5 : decode cX6_set 5 = .ok (.iload_n 2, 1) := by decide +kernel
theorem dX6_set_6 : decode cX6_set 6 = .ok (.invokevirtual 43, 3) := by decide +kernel
theorem dX6_set_9 : decode cX6_set 9 = .ok (.ifCond .ne 5, 3) := by decide +kernel
theorem dX6_set_12 : decode cX6_set 12 = .ok (.iconst (-1), 1) := by decide +kernel
theorem dX6_set_13 : decode cX6_set 13 = .ok (.ireturn, 1) := by decide +kernel
theorem dX6_set_14 : decode cX6_set 14 = .ok (.iload_n 1, 1) := by decide +kernel
theorem dX6_set_15 : decode cX6_set 15 = .ok (.ifCond .eq 8, 3) := by decide +kernel
theorem dX6_set_18 : decode cX6_set 18 = .ok (.iload_n 1, 1) := by decide +kernel
theorem dX6_set_19 : decode cX6_set 19 = .ok (.iconst 1, 1) := by decide +kernel
theorem dX6_set_20 : decode cX6_set 20 = .ok (.if_icmp .ne 7, 3) := by decide +kernel
theorem dX6_set_23 : decode cX6_set 23 = .ok (.iconst 1, 1) := by decide +kernel
theorem dX6_set_24 : decode cX6_set 24 = .ok (.goto 4, 3) := by decide +kernel
theorem dX6_set_27 : decode cX6_set 27 = .ok (.iconst 0, 1) := by decide +kernel
theorem dX6_set_28 : decode cX6_set 28 = .ok (.istore_n 3, 1) := by decide +kernel
theorem dX6_set_29 : decode cX6_set 29 = .ok (.iload_n 3, 1) := by decide +kernel
theorem dX6_set_30 : decode cX6_set 30 = .ok (.ifCond .ne 16, 3) := by decide +kernel
theorem dX6_set_33 : decode cX6_set 33 = .ok (.aload_n 0, 1) := by decide +kernel
theorem dX6_set_34 : decode cX6_set 34 = .ok (.getfield 35, 3) := by decide +kernel
theorem dX6_set_37 : decode cX6_set 37 = .ok (.getfield 47, 3) := by decide +kernel
theorem dX6_set_40 : decode cX6_set 40 = .ok (.ifCond .le 6, 3) := by decide +kernel
theorem dX6_set_43 : decode cX6_set 43 = .ok (.bipush (-2), 2) := by decide +kernel
theorem dX6_set_45 : decode cX6_set 45 = .ok (.ireturn, 1) := by decide +kernel
theorem dX6_set_46 : decode cX6_set 46 = .ok (.aload_n 0, 1) := by decide +kernel
theorem dX6_set_47 : decode cX6_set 47 = .ok (.getfield 10, 3) := by decide +kernel
theorem dX6_set_50 : decode cX6_set 50 = .ok (.iload_n 1, 1) := by decide +kernel
theorem dX6_set_51 : decode cX6_set 51 = .ok (.invokevirtual 51, 3) := by decide +kernel
theorem dX6_set_54 : decode cX6_set 54 = .ok (.istore 4, 2) := by decide +kernel
theorem dX6_set_56 : decode cX6_set 56 = .ok (.aload_n 0, 1) := by decide +kernel
theorem dX6_set_57 : decode cX6_set 57 = .ok (.getfield 10, 3) := by decide +kernel
theorem dX6_set_60 : decode cX6_set 60 = .ok (.iload_n 1, 1) := by decide +kernel
theorem dX6_set_61 : decode cX6_set 61 = .ok (.iload_n 2, 1) := by decide +kernel
theorem dX6_set_62 : decode cX6_set 62 = .ok (.invokevirtual 55, 3) := by decide +kernel
theorem dX6_set_65 : decode cX6_set 65 = .ok (.iload 4, 2) := by decide +kernel
theorem dX6_set_67 : decode cX6_set 67 = .ok (.ireturn, 1) := by decide +kernel
set_option maxRecDepth 20000 in
theorem ggX6_won_X6_within : GoodIn wsX6_won wsX6_within := goodIn_r _ [6] (by decide +kernel) (by decide +kernel)
set_option maxRecDepth 20000 in
theorem gX6_won_X6_within : GoodIn wsX6_won (va_wsS RX6 59 yX6_within wsX6_within) := goodIn_app (goodIn_of _ (by decide +kernel)) ggX6_won_X6_within
set_option maxRecDepth 20000 in
theorem ggX6_won_X6_asked : GoodIn wsX6_won wsX6_asked := goodIn_r _ [9] (by decide +kernel) (by decide +kernel)
set_option maxRecDepth 20000 in
theorem gX6_won_X6_asked : GoodIn wsX6_won (va_wsS RX6 63 yX6_asked wsX6_asked) := goodIn_app (goodIn_of _ (by decide +kernel)) ggX6_won_X6_asked
set_option maxRecDepth 20000 in
theorem ggX6_won_X5_gameWinner : GoodIn wsX6_won wsX5_gameWinner := goodIn_r _ [14, 15, 16, 17, 18, 19, 20, 21, 22, 23, 24, 13, 25, 31, 32, 33, 34, 35, 36, 37] (by decide +kernel) (by decide +kernel)
set_option maxRecDepth 20000 in
theorem gX6_won_X5_gameWinner : GoodIn wsX6_won (wsV RX6 66 RX5 yX5_gameWinner wsX5_gameWinner) := goodIn_app (goodIn_of _ (by decide +kernel)) ggX6_won_X5_gameWinner
theorem dX6_won_0 : decode cX6_won 0 = .ok (.iload_n 1, 1) := by decide +kernel
theorem dX6_won_1 : decode cX6_won 1 = .ok (.iconst 0, 1) := by decide +kernel
theorem dX6_won_2 : decode cX6_won 2 = .ok (.iconst 2, 1) := by decide +kernel
theorem dX6_won_3 : decode cX6_won 3 = .ok (.invokestatic 59, 3) := by decide +kernel
theorem dX6_won_6 : decode cX6_won 6 = .ok (.ifCond .eq 23, 3) := by decide +kernel
theorem dX6_won_9 : decode cX6_won 9 = .ok (.iload_n 2, 1) := by decide +kernel
theorem dX6_won_10 : decode cX6_won 10 = .ok (.iconst 0, 1) := by decide +kernel
theorem dX6_won_11 : decode cX6_won 11 = .ok (.bipush 20, 2) := by decide +kernel
theorem dX6_won_13 : decode cX6_won 13 = .ok (.invokestatic 59, 3) := by decide +kernel
theorem dX6_won_16 : decode cX6_won 16 = .ok (.ifCond .eq 13, 3) := by decide +kernel
theorem dX6_won_19 : decode cX6_won 19 = .ok (.iload_n 3, 1) := by decide +kernel
theorem dX6_won_20 : decode cX6_won 20 = .ok (.iconst 0, 1) := by decide +kernel
theorem dX6_won_21 : decode cX6_won 21 = .ok (.bipush 20, 2) := by decide +kernel
theorem dX6_won_23 : decode cX6_won 23 = .ok (.invokestatic 59, 3) := by decide +kernel
theorem dX6_won_26 : decode cX6_won 26 = .ok (.ifCond .ne 5, 3) := by decide +kernel
theorem dX6_won_29 : decode cX6_won 29 = .ok (.iconst (-1), 1) := by decide +kernel
theorem dX6_won_30 : decode cX6_won 30 = .ok (.ireturn, 1) := by decide +kernel
theorem dX6_won_31 : decode cX6_won 31 = .ok (.aload_n 0, 1) := by decide +kernel
theorem dX6_won_32 : decode cX6_won 32 = .ok (.dup, 1) := by decide +kernel
theorem dX6_won_33 : decode cX6_won 33 = .ok (.getfield 39, 3) := by decide +kernel
theorem dX6_won_36 : decode cX6_won 36 = .ok (.iload_n 1, 1) := by decide +kernel
theorem dX6_won_37 : decode cX6_won 37 = .ok (.invokestatic 63, 3) := by decide +kernel
theorem dX6_won_40 : decode cX6_won 40 = .ok (.i2l, 1) := by decide +kernel
theorem dX6_won_41 : decode cX6_won 41 = .ok (.ladd, 1) := by decide +kernel
theorem dX6_won_42 : decode cX6_won 42 = .ok (.putfield 39, 3) := by decide +kernel
theorem dX6_won_45 : decode cX6_won 45 = .ok (.aload_n 0, 1) := by decide +kernel
theorem dX6_won_46 : decode cX6_won 46 = .ok (.getfield 10, 3) := by decide +kernel
theorem dX6_won_49 : decode cX6_won 49 = .ok (.iload_n 1, 1) := by decide +kernel
theorem dX6_won_50 : decode cX6_won 50 = .ok (.iload_n 2, 1) := by decide +kernel
theorem dX6_won_51 : decode cX6_won 51 = .ok (.iload_n 3, 1) := by decide +kernel
theorem dX6_won_52 : decode cX6_won 52 = .ok (.invokevirtual 66, 3) := by decide +kernel
theorem dX6_won_55 : decode cX6_won 55 = .ok (.ireturn, 1) := by decide +kernel
set_option maxRecDepth 20000 in
theorem ggX6_chance_X6_isScore : GoodIn wsX6_chance wsX6_isScore := goodIn_r _ [8, 9, 10, 11, 12, 13, 7, 14, 88, 89, 90, 91, 92, 98, 99, 100, 101, 102, 103, 104] (by decide +kernel) (by decide +kernel)
set_option maxRecDepth 20000 in
theorem gX6_chance_X6_isScore : GoodIn wsX6_chance (wsV RX6 70 RX6 yX6_isScore wsX6_isScore) := goodIn_app (goodIn_of _ (by decide +kernel)) ggX6_chance_X6_isScore
set_option maxRecDepth 20000 in
theorem ggX6_chance_X6_isEither : GoodIn wsX6_chance wsX6_isEither := goodIn_r _ [17] (by decide +kernel) (by decide +kernel)
set_option maxRecDepth 20000 in
theorem gX6_chance_X6_isEither : GoodIn wsX6_chance (va_wsS RX6 73 yX6_isEither wsX6_isEither) := goodIn_app (goodIn_of _ (by decide +kernel)) ggX6_chance_X6_isEither
set_option maxRecDepth 20000 in
theorem ggX6_chance_X0_reckon : GoodIn wsX6_chance wsX0_reckon := goodIn_r _ [22, 23, 24, 25, 26, 27, 28, 29, 30, 31, 32, 33, 34, 35, 36, 37, 38, 39, 40, 41, 21, 42, 43, 44, 45, 46, 47, 48, 49, 50, 51, 52, 53, 54, 55, 56, 57, 58, 59, 60, 61, 62, 63, 64, 65, 66, 67, 68, 69, 70, 71, 72, 73, 74, 75, 76, 77, 78, 79, 93, 94, 95, 96, 97, 98, 99, 100, 101, 102, 103, 104, 105, 106] (by decide +kernel) (by decide +kernel)
set_option maxRecDepth 20000 in
theorem gX6_chance_X0_reckon : GoodIn wsX6_chance (wsV RX6 79 RX0 yX0_reckon wsX0_reckon) := goodIn_app (goodIn_of _ (by decide +kernel)) ggX6_chance_X0_reckon
set_option maxRecDepth 20000 in
theorem ggX6_chance_X1_at : GoodIn wsX6_chance wsX1_at := goodIn_r _ [79, 70, 71, 72, 73, 74, 68, 75, 105, 106] (by decide +kernel) (by decide +kernel)
set_option maxRecDepth 20000 in
theorem gX6_chance_X1_at : GoodIn wsX6_chance (wsV RX6 87 RX1 yX1_at wsX1_at) := goodIn_app (goodIn_of _ (by decide +kernel)) ggX6_chance_X1_at
set_option maxRecDepth 20000 in
theorem ggX6_chance_X0_bottom : GoodIn wsX6_chance wsX0_bottom := goodIn_r _ [61, 27, 25, 62, 63, 21, 64, 93, 94, 95, 96, 97] (by decide +kernel) (by decide +kernel)
set_option maxRecDepth 20000 in
theorem gX6_chance_X0_bottom : GoodIn wsX6_chance (wsV RX6 93 RX0 yX0_bottom wsX0_bottom) := goodIn_app (goodIn_of _ (by decide +kernel)) ggX6_chance_X0_bottom
set_option maxRecDepth 20000 in
theorem ggX6_chance_X6_inLeastForm : GoodIn wsX6_chance wsX6_inLeastForm := goodIn_r _ [84, 85, 86, 7, 87] (by decide +kernel) (by decide +kernel)
set_option maxRecDepth 20000 in
theorem gX6_chance_X6_inLeastForm : GoodIn wsX6_chance (va_wsS RX6 96 yX6_inLeastForm wsX6_inLeastForm) := goodIn_app (goodIn_of _ (by decide +kernel)) ggX6_chance_X6_inLeastForm
theorem dX6_chance_0 : decode cX6_chance 0 = .ok (.aload_n 0, 1) := by decide +kernel
theorem dX6_chance_1 : decode cX6_chance 1 = .ok (.iload_n 1, 1) := by decide +kernel
theorem dX6_chance_2 : decode cX6_chance 2 = .ok (.iload_n 2, 1) := by decide +kernel
theorem dX6_chance_3 : decode cX6_chance 3 = .ok (.invokevirtual 70, 3) := by decide +kernel
theorem dX6_chance_6 : decode cX6_chance 6 = .ok (.ifCond .eq 18, 3) := by decide +kernel
theorem dX6_chance_9 : decode cX6_chance 9 = .ok (.iload_n 3, 1) := by decide +kernel
theorem dX6_chance_10 : decode cX6_chance 10 = .ok (.invokestatic 73, 3) := by decide +kernel
theorem dX6_chance_13 : decode cX6_chance 13 = .ok (.ifCond .eq 11, 3) := by decide +kernel
theorem dX6_chance_16 : decode cX6_chance 16 = .ok (.iload 4, 2) := by decide +kernel
theorem dX6_chance_18 : decode cX6_chance 18 = .ok (.invokestatic 73, 3) := by decide +kernel
theorem dX6_chance_21 : decode cX6_chance 21 = .ok (.ifCond .ne 7, 3) := by decide +kernel
theorem dX6_chance_24 : decode cX6_chance 24 = .ok (.ldc2_w 77, 3) := by decide +kernel
theorem dX6_chance_27 : decode cX6_chance 27 = .ok (.lreturn, 1) := by decide +kernel
theorem dX6_chance_28 : decode cX6_chance 28 = .ok (.aload_n 0, 1) := by decide +kernel
theorem dX6_chance_29 : decode cX6_chance 29 = .ok (.getfield 21, 3) := by decide +kernel
theorem dX6_chance_32 : decode cX6_chance 32 = .ok (.iload_n 3, 1) := by decide +kernel
theorem dX6_chance_33 : decode cX6_chance 33 = .ok (.invokevirtual 79, 3) := by decide +kernel
theorem dX6_chance_36 : decode cX6_chance 36 = .ok (.aload_n 0, 1) := by decide +kernel
theorem dX6_chance_37 : decode cX6_chance 37 = .ok (.getfield 21, 3) := by decide +kernel
theorem dX6_chance_40 : decode cX6_chance 40 = .ok (.getfield 83, 3) := by decide +kernel
theorem dX6_chance_43 : decode cX6_chance 43 = .ok (.iload_n 1, 1) := by decide +kernel
theorem dX6_chance_44 : decode cX6_chance 44 = .ok (.iload_n 2, 1) := by decide +kernel
theorem dX6_chance_45 : decode cX6_chance 45 = .ok (.invokevirtual 87, 3) := by decide +kernel
theorem dX6_chance_48 : decode cX6_chance 48 = .ok (.aload_n 0, 1) := by decide +kernel
theorem dX6_chance_49 : decode cX6_chance 49 = .ok (.getfield 21, 3) := by decide +kernel
theorem dX6_chance_52 : decode cX6_chance 52 = .ok (.iload_n 1, 1) := by decide +kernel
theorem dX6_chance_53 : decode cX6_chance 53 = .ok (.iload_n 2, 1) := by decide +kernel
theorem dX6_chance_54 : decode cX6_chance 54 = .ok (.invokevirtual 93, 3) := by decide +kernel
theorem dX6_chance_57 : decode cX6_chance 57 = .ok (.iload 4, 2) := by decide +kernel
theorem dX6_chance_59 : decode cX6_chance 59 = .ok (.invokestatic 96, 3) := by decide +kernel
theorem dX6_chance_62 : decode cX6_chance 62 = .ok (.lreturn, 1) := by decide +kernel
set_option maxRecDepth 20000 in
theorem ggX6_lasts_X6_isScore : GoodIn wsX6_lasts wsX6_isScore := goodIn_r _ [8, 9, 10, 11, 12, 13, 7, 14, 88, 89, 90, 91, 92, 98, 99, 100, 101, 102, 103, 104] (by decide +kernel) (by decide +kernel)
set_option maxRecDepth 20000 in
theorem gX6_lasts_X6_isScore : GoodIn wsX6_lasts (wsV RX6 70 RX6 yX6_isScore wsX6_isScore) := goodIn_app (goodIn_of _ (by decide +kernel)) ggX6_lasts_X6_isScore
set_option maxRecDepth 20000 in
theorem ggX6_lasts_X6_isEither : GoodIn wsX6_lasts wsX6_isEither := goodIn_r _ [17] (by decide +kernel) (by decide +kernel)
set_option maxRecDepth 20000 in
theorem gX6_lasts_X6_isEither : GoodIn wsX6_lasts (va_wsS RX6 73 yX6_isEither wsX6_isEither) := goodIn_app (goodIn_of _ (by decide +kernel)) ggX6_lasts_X6_isEither
set_option maxRecDepth 20000 in
theorem ggX6_lasts_X0_reckon : GoodIn wsX6_lasts wsX0_reckon := goodIn_r _ [22, 23, 24, 25, 26, 27, 28, 29, 30, 31, 32, 33, 34, 35, 36, 37, 38, 39, 40, 41, 21, 42, 43, 44, 45, 46, 47, 48, 49, 50, 51, 52, 53, 54, 55, 56, 57, 58, 59, 60, 61, 62, 63, 64, 65, 66, 67, 68, 69, 70, 71, 72, 73, 74, 75, 76, 77, 78, 79, 93, 94, 95, 96, 97, 98, 99, 100, 101, 102, 103, 104, 105, 106] (by decide +kernel) (by decide +kernel)
set_option maxRecDepth 20000 in
theorem gX6_lasts_X0_reckon : GoodIn wsX6_lasts (wsV RX6 79 RX0 yX0_reckon wsX0_reckon) := goodIn_app (goodIn_of _ (by decide +kernel)) ggX6_lasts_X0_reckon
set_option maxRecDepth 20000 in
theorem ggX6_lasts_X1_at : GoodIn wsX6_lasts wsX1_at := goodIn_r _ [79, 70, 71, 72, 73, 74, 68, 75, 105, 106] (by decide +kernel) (by decide +kernel)
set_option maxRecDepth 20000 in
theorem gX6_lasts_X1_at : GoodIn wsX6_lasts (wsV RX6 87 RX1 yX1_at wsX1_at) := goodIn_app (goodIn_of _ (by decide +kernel)) ggX6_lasts_X1_at
set_option maxRecDepth 20000 in
theorem ggX6_lasts_X0_bottom : GoodIn wsX6_lasts wsX0_bottom := goodIn_r _ [61, 27, 25, 62, 63, 21, 64, 93, 94, 95, 96, 97] (by decide +kernel) (by decide +kernel)
set_option maxRecDepth 20000 in
theorem gX6_lasts_X0_bottom : GoodIn wsX6_lasts (wsV RX6 93 RX0 yX0_bottom wsX0_bottom) := goodIn_app (goodIn_of _ (by decide +kernel)) ggX6_lasts_X0_bottom
set_option maxRecDepth 20000 in
theorem ggX6_lasts_X6_inLeastForm : GoodIn wsX6_lasts wsX6_inLeastForm := goodIn_r _ [84, 85, 86, 7, 87] (by decide +kernel) (by decide +kernel)
set_option maxRecDepth 20000 in
theorem gX6_lasts_X6_inLeastForm : GoodIn wsX6_lasts (va_wsS RX6 96 yX6_inLeastForm wsX6_inLeastForm) := goodIn_app (goodIn_of _ (by decide +kernel)) ggX6_lasts_X6_inLeastForm
theorem dX6_lasts_0 : decode cX6_lasts 0 = .ok (.aload_n 0, 1) := by decide +kernel
theorem dX6_lasts_1 : decode cX6_lasts 1 = .ok (.iload_n 1, 1) := by decide +kernel
theorem dX6_lasts_2 : decode cX6_lasts 2 = .ok (.iload_n 2, 1) := by decide +kernel
theorem dX6_lasts_3 : decode cX6_lasts 3 = .ok (.invokevirtual 70, 3) := by decide +kernel
theorem dX6_lasts_6 : decode cX6_lasts 6 = .ok (.ifCond .eq 18, 3) := by decide +kernel
theorem dX6_lasts_9 : decode cX6_lasts 9 = .ok (.iload_n 3, 1) := by decide +kernel
theorem dX6_lasts_10 : decode cX6_lasts 10 = .ok (.invokestatic 73, 3) := by decide +kernel
theorem dX6_lasts_13 : decode cX6_lasts 13 = .ok (.ifCond .eq 11, 3) := by decide +kernel
theorem dX6_lasts_16 : decode cX6_lasts 16 = .ok (.iload 4, 2) := by decide +kernel
theorem dX6_lasts_18 : decode cX6_lasts 18 = .ok (.invokestatic 73, 3) := by decide +kernel
theorem dX6_lasts_21 : decode cX6_lasts 21 = .ok (.ifCond .ne 7, 3) := by decide +kernel
theorem dX6_lasts_24 : decode cX6_lasts 24 = .ok (.ldc2_w 77, 3) := by decide +kernel
theorem dX6_lasts_27 : decode cX6_lasts 27 = .ok (.lreturn, 1) := by decide +kernel
theorem dX6_lasts_28 : decode cX6_lasts 28 = .ok (.aload_n 0, 1) := by decide +kernel
theorem dX6_lasts_29 : decode cX6_lasts 29 = .ok (.getfield 21, 3) := by decide +kernel
theorem dX6_lasts_32 : decode cX6_lasts 32 = .ok (.iload_n 3, 1) := by decide +kernel
theorem dX6_lasts_33 : decode cX6_lasts 33 = .ok (.invokevirtual 79, 3) := by decide +kernel
theorem dX6_lasts_36 : decode cX6_lasts 36 = .ok (.aload_n 0, 1) := by decide +kernel
theorem dX6_lasts_37 : decode cX6_lasts 37 = .ok (.getfield 21, 3) := by decide +kernel
theorem dX6_lasts_40 : decode cX6_lasts 40 = .ok (.getfield 100, 3) := by decide +kernel
theorem dX6_lasts_43 : decode cX6_lasts 43 = .ok (.iload_n 1, 1) := by decide +kernel
theorem dX6_lasts_44 : decode cX6_lasts 44 = .ok (.iload_n 2, 1) := by decide +kernel
theorem dX6_lasts_45 : decode cX6_lasts 45 = .ok (.invokevirtual 87, 3) := by decide +kernel
theorem dX6_lasts_48 : decode cX6_lasts 48 = .ok (.aload_n 0, 1) := by decide +kernel
theorem dX6_lasts_49 : decode cX6_lasts 49 = .ok (.getfield 21, 3) := by decide +kernel
theorem dX6_lasts_52 : decode cX6_lasts 52 = .ok (.iload_n 1, 1) := by decide +kernel
theorem dX6_lasts_53 : decode cX6_lasts 53 = .ok (.iload_n 2, 1) := by decide +kernel
theorem dX6_lasts_54 : decode cX6_lasts 54 = .ok (.invokevirtual 93, 3) := by decide +kernel
theorem dX6_lasts_57 : decode cX6_lasts 57 = .ok (.iload 4, 2) := by decide +kernel
theorem dX6_lasts_59 : decode cX6_lasts 59 = .ok (.invokestatic 96, 3) := by decide +kernel
theorem dX6_lasts_62 : decode cX6_lasts 62 = .ok (.lreturn, 1) := by decide +kernel
set_option maxRecDepth 20000 in
theorem ggX6_weight_X6_isScore : GoodIn wsX6_weight wsX6_isScore := goodIn_r _ [10, 2, 5, 3, 11, 12, 9, 13, 91, 92, 93, 94, 95, 96, 97, 98, 99, 100, 101, 102] (by decide +kernel) (by decide +kernel)
set_option maxRecDepth 20000 in
theorem gX6_weight_X6_isScore : GoodIn wsX6_weight (wsV RX6 70 RX6 yX6_isScore wsX6_isScore) := goodIn_app (goodIn_of _ (by decide +kernel)) ggX6_weight_X6_isScore
set_option maxRecDepth 20000 in
theorem ggX6_weight_X6_isEither : GoodIn wsX6_weight wsX6_isEither := goodIn_r _ [16] (by decide +kernel) (by decide +kernel)
set_option maxRecDepth 20000 in
theorem gX6_weight_X6_isEither : GoodIn wsX6_weight (va_wsS RX6 73 yX6_isEither wsX6_isEither) := goodIn_app (goodIn_of _ (by decide +kernel)) ggX6_weight_X6_isEither
set_option maxRecDepth 20000 in
theorem ggX6_weight_X5_gameWinner : GoodIn wsX6_weight wsX5_gameWinner := goodIn_r _ [21, 22, 23, 24, 25, 26, 27, 28, 29, 30, 31, 20, 32, 96, 97, 98, 99, 100, 101, 102] (by decide +kernel) (by decide +kernel)
set_option maxRecDepth 20000 in
theorem gX6_weight_X5_gameWinner : GoodIn wsX6_weight (wsV RX6 66 RX5 yX5_gameWinner wsX5_gameWinner) := goodIn_app (goodIn_of _ (by decide +kernel)) ggX6_weight_X5_gameWinner
set_option maxRecDepth 20000 in
theorem ggX6_weight_X0_reckon : GoodIn wsX6_weight wsX0_reckon := goodIn_r _ [37, 38, 39, 40, 41, 42, 43, 27, 24, 28, 44, 45, 46, 20, 47, 48, 49, 50, 51, 52, 36, 53, 54, 55, 56, 57, 18, 19, 21, 22, 23, 25, 26, 29, 30, 31, 32, 58, 59, 60, 61, 62, 63, 64, 65, 66, 67, 68, 69, 70, 71, 72, 73, 74, 75, 76, 77, 78, 79, 103, 104, 105, 106, 107, 96, 97, 98, 99, 100, 101, 102, 108, 109] (by decide +kernel) (by decide +kernel)
set_option maxRecDepth 20000 in
theorem gX6_weight_X0_reckon : GoodIn wsX6_weight (wsV RX6 79 RX0 yX0_reckon wsX0_reckon) := goodIn_app (goodIn_of _ (by decide +kernel)) ggX6_weight_X0_reckon
set_option maxRecDepth 20000 in
theorem ggX6_weight_X0_weightAt : GoodIn wsX6_weight wsX0_weightAt := goodIn_r _ [83, 54, 76, 77, 78, 68, 79, 70, 71, 72, 73, 74, 75, 103, 104, 105, 106, 107, 108, 109] (by decide +kernel) (by decide +kernel)
set_option maxRecDepth 20000 in
theorem gX6_weight_X0_weightAt : GoodIn wsX6_weight (wsV RX6 109 RX0 yX0_weightAt wsX0_weightAt) := goodIn_app (goodIn_of _ (by decide +kernel)) ggX6_weight_X0_weightAt
set_option maxRecDepth 20000 in
theorem ggX6_weight_X0_bottom : GoodIn wsX6_weight wsX0_bottom := goodIn_r _ [61, 42, 40, 62, 63, 36, 64, 103, 104, 105, 106, 107] (by decide +kernel) (by decide +kernel)
set_option maxRecDepth 20000 in
theorem gX6_weight_X0_bottom : GoodIn wsX6_weight (wsV RX6 93 RX0 yX0_bottom wsX0_bottom) := goodIn_app (goodIn_of _ (by decide +kernel)) ggX6_weight_X0_bottom
set_option maxRecDepth 20000 in
theorem ggX6_weight_X6_inLeastForm : GoodIn wsX6_weight wsX6_inLeastForm := goodIn_r _ [87, 88, 89, 9, 90] (by decide +kernel) (by decide +kernel)
set_option maxRecDepth 20000 in
theorem gX6_weight_X6_inLeastForm : GoodIn wsX6_weight (va_wsS RX6 96 yX6_inLeastForm wsX6_inLeastForm) := goodIn_app (goodIn_of _ (by decide +kernel)) ggX6_weight_X6_inLeastForm
theorem dX6_weight_0 : decode cX6_weight 0 = .ok (.aload_n 0, 1) := by decide +kernel
theorem dX6_weight_1 : decode cX6_weight 1 = .ok (.iload_n 1, 1) := by decide +kernel
theorem dX6_weight_2 : decode cX6_weight 2 = .ok (.iload_n 2, 1) := by decide +kernel
theorem dX6_weight_3 : decode cX6_weight 3 = .ok (.invokevirtual 70, 3) := by decide +kernel
theorem dX6_weight_6 : decode cX6_weight 6 = .ok (.ifCond .eq 18, 3) := by decide +kernel
theorem dX6_weight_9 : decode cX6_weight 9 = .ok (.iload_n 3, 1) := by decide +kernel
theorem dX6_weight_10 : decode cX6_weight 10 = .ok (.invokestatic 73, 3) := by decide +kernel
theorem dX6_weight_13 : decode cX6_weight 13 = .ok (.ifCond .eq 11, 3) := by decide +kernel
theorem dX6_weight_16 : decode cX6_weight 16 = .ok (.iload 4, 2) := by decide +kernel
theorem dX6_weight_18 : decode cX6_weight 18 = .ok (.invokestatic 73, 3) := by decide +kernel
theorem dX6_weight_21 : decode cX6_weight 21 = .ok (.ifCond .ne 7, 3) := by decide +kernel
theorem dX6_weight_24 : decode cX6_weight 24 = .ok (.ldc2_w 77, 3) := by decide +kernel
theorem dX6_weight_27 : decode cX6_weight 27 = .ok (.lreturn, 1) := by decide +kernel
theorem dX6_weight_28 : decode cX6_weight 28 = .ok (.aload_n 0, 1) := by decide +kernel
theorem dX6_weight_29 : decode cX6_weight 29 = .ok (.getfield 10, 3) := by decide +kernel
theorem dX6_weight_32 : decode cX6_weight 32 = .ok (.aload_n 0, 1) := by decide +kernel
theorem dX6_weight_33 : decode cX6_weight 33 = .ok (.getfield 10, 3) := by decide +kernel
theorem dX6_weight_36 : decode cX6_weight 36 = .ok (.getfield 103, 3) := by decide +kernel
theorem dX6_weight_39 : decode cX6_weight 39 = .ok (.iload_n 1, 1) := by decide +kernel
theorem dX6_weight_40 : decode cX6_weight 40 = .ok (.iload_n 2, 1) := by decide +kernel
theorem dX6_weight_41 : decode cX6_weight 41 = .ok (.invokevirtual 66, 3) := by decide +kernel
theorem dX6_weight_44 : decode cX6_weight 44 = .ok (.ifCond .eq 7, 3) := by decide +kernel
theorem dX6_weight_47 : decode cX6_weight 47 = .ok (.ldc2_w 77, 3) := by decide +kernel
theorem dX6_weight_50 : decode cX6_weight 50 = .ok (.lreturn, 1) := by decide +kernel
theorem dX6_weight_51 : decode cX6_weight 51 = .ok (.aload_n 0, 1) := by decide +kernel
theorem dX6_weight_52 : decode cX6_weight 52 = .ok (.getfield 21, 3) := by decide +kernel
theorem dX6_weight_55 : decode cX6_weight 55 = .ok (.iload_n 3, 1) := by decide +kernel
theorem dX6_weight_56 : decode cX6_weight 56 = .ok (.invokevirtual 79, 3) := by decide +kernel
theorem dX6_weight_59 : decode cX6_weight 59 = .ok (.iload_n 1, 1) := by decide +kernel
theorem dX6_weight_60 : decode cX6_weight 60 = .ok (.aload_n 0, 1) := by decide +kernel
theorem dX6_weight_61 : decode cX6_weight 61 = .ok (.getfield 10, 3) := by decide +kernel
theorem dX6_weight_64 : decode cX6_weight 64 = .ok (.getfield 106, 3) := by decide +kernel
theorem dX6_weight_67 : decode cX6_weight 67 = .ok (.if_icmp .ne 18, 3) := by decide +kernel
theorem dX6_weight_70 : decode cX6_weight 70 = .ok (.iload_n 2, 1) := by decide +kernel
theorem dX6_weight_71 : decode cX6_weight 71 = .ok (.aload_n 0, 1) := by decide +kernel
theorem dX6_weight_72 : decode cX6_weight 72 = .ok (.getfield 10, 3) := by decide +kernel
theorem dX6_weight_75 : decode cX6_weight 75 = .ok (.getfield 106, 3) := by decide +kernel
theorem dX6_weight_78 : decode cX6_weight 78 = .ok (.if_icmp .ne 7, 3) := by decide +kernel
theorem dX6_weight_81 : decode cX6_weight 81 = .ok (.iconst 1, 1) := by decide +kernel
theorem dX6_weight_82 : decode cX6_weight 82 = .ok (.goto 4, 3) := by decide +kernel
theorem dX6_weight_85 : decode cX6_weight 85 = .ok (.iconst 0, 1) := by decide +kernel
theorem dX6_weight_86 : decode cX6_weight 86 = .ok (.istore 5, 2) := by decide +kernel
theorem dX6_weight_88 : decode cX6_weight 88 = .ok (.aload_n 0, 1) := by decide +kernel
theorem dX6_weight_89 : decode cX6_weight 89 = .ok (.getfield 21, 3) := by decide +kernel
theorem dX6_weight_92 : decode cX6_weight 92 = .ok (.iload_n 1, 1) := by decide +kernel
theorem dX6_weight_93 : decode cX6_weight 93 = .ok (.iload 5, 2) := by decide +kernel
theorem dX6_weight_95 : decode cX6_weight 95 = .ok (.isub, 1) := by decide +kernel
theorem dX6_weight_96 : decode cX6_weight 96 = .ok (.iload_n 2, 1) := by decide +kernel
theorem dX6_weight_97 : decode cX6_weight 97 = .ok (.iload 5, 2) := by decide +kernel
theorem dX6_weight_99 : decode cX6_weight 99 = .ok (.isub, 1) := by decide +kernel
theorem dX6_weight_100 : decode cX6_weight 100 = .ok (.invokevirtual 109, 3) := by decide +kernel
theorem dX6_weight_103 : decode cX6_weight 103 = .ok (.aload_n 0, 1) := by decide +kernel
theorem dX6_weight_104 : decode cX6_weight 104 = .ok (.getfield 21, 3) := by decide +kernel
theorem dX6_weight_107 : decode cX6_weight 107 = .ok (.iload_n 1, 1) := by decide +kernel
theorem dX6_weight_108 : decode cX6_weight 108 = .ok (.iload 5, 2) := by decide +kernel
theorem dX6_weight_110 : decode cX6_weight 110 = .ok (.isub, 1) := by decide +kernel
theorem dX6_weight_111 : decode cX6_weight 111 = .ok (.iconst 1, 1) := by decide +kernel
theorem dX6_weight_112 : decode cX6_weight 112 = .ok (.iadd, 1) := by decide +kernel
theorem dX6_weight_113 : decode cX6_weight 113 = .ok (.iload_n 2, 1) := by decide +kernel
theorem dX6_weight_114 : decode cX6_weight 114 = .ok (.iload 5, 2) := by decide +kernel
theorem dX6_weight_116 : decode cX6_weight 116 = .ok (.isub, 1) := by decide +kernel
theorem dX6_weight_117 : decode cX6_weight 117 = .ok (.invokevirtual 93, 3) := by decide +kernel
theorem dX6_weight_120 : decode cX6_weight 120 = .ok (.iload 4, 2) := by decide +kernel
theorem dX6_weight_122 : decode cX6_weight 122 = .ok (.invokestatic 96, 3) := by decide +kernel
theorem dX6_weight_125 : decode cX6_weight 125 = .ok (.lreturn, 1) := by decide +kernel
set_option maxRecDepth 20000 in
theorem ggX6_heaviest_X6_isEither : GoodIn wsX6_heaviest wsX6_isEither := goodIn_r _ [5] (by decide +kernel) (by decide +kernel)
set_option maxRecDepth 20000 in
theorem gX6_heaviest_X6_isEither : GoodIn wsX6_heaviest (va_wsS RX6 73 yX6_isEither wsX6_isEither) := goodIn_app (goodIn_of _ (by decide +kernel)) ggX6_heaviest_X6_isEither
set_option maxRecDepth 20000 in
theorem ggX6_heaviest_X0_reckon : GoodIn wsX6_heaviest wsX0_reckon := goodIn_r _ [10, 11, 12, 13, 14, 15, 16, 17, 18, 19, 20, 21, 22, 23, 24, 25, 26, 27, 28, 29, 9, 30, 31, 32, 33, 34, 35, 36, 37, 38, 39, 40, 41, 42, 43, 44, 45, 46, 47, 48, 49, 50, 51, 52, 53, 54, 55, 56, 57, 58, 59, 60, 61, 62, 63, 64, 65, 66, 67, 82, 83, 84, 85, 86, 87, 88, 89, 90, 91, 92, 93, 94, 95] (by decide +kernel) (by decide +kernel)
set_option maxRecDepth 20000 in
theorem gX6_heaviest_X0_reckon : GoodIn wsX6_heaviest (wsV RX6 79 RX0 yX0_reckon wsX0_reckon) := goodIn_app (goodIn_of _ (by decide +kernel)) ggX6_heaviest_X0_reckon
set_option maxRecDepth 20000 in
theorem ggX6_heaviest_X0_heaviestScore : GoodIn wsX6_heaviest wsX0_heaviestScore := goodIn_r _ [71, 72, 13, 11, 14, 73, 74, 75, 9, 76, 31, 64, 65, 66, 56, 67, 58, 59, 60, 61, 62, 63, 50, 51, 52, 34, 35, 36, 23, 37, 38, 39, 18, 40, 41, 17, 19, 42, 43, 44, 45, 82, 83, 84, 85, 86, 87, 88, 89, 90, 91, 92, 93, 94, 95] (by decide +kernel) (by decide +kernel)
set_option maxRecDepth 20000 in
theorem gX6_heaviest_X0_heaviestScore : GoodIn wsX6_heaviest (wsV RX6 112 RX0 yX0_heaviestScore wsX0_heaviestScore) := goodIn_app (goodIn_of _ (by decide +kernel)) ggX6_heaviest_X0_heaviestScore
theorem dX6_heaviest_0 : decode cX6_heaviest 0 = .ok (.iload_n 1, 1) := by decide +kernel
theorem dX6_heaviest_1 : decode cX6_heaviest 1 = .ok (.invokestatic 73, 3) := by decide +kernel
theorem dX6_heaviest_4 : decode cX6_heaviest 4 = .ok (.ifCond .eq 10, 3) := by decide +kernel
theorem dX6_heaviest_7 : decode cX6_heaviest 7 = .ok (.iload_n 2, 1) := by decide +kernel
theorem dX6_heaviest_8 : decode cX6_heaviest 8 = .ok (.invokestatic 73, 3) := by decide +kernel
theorem dX6_heaviest_11 : decode cX6_heaviest 11 = .ok (.ifCond .ne 5, 3) := by decide +kernel
theorem dX6_heaviest_14 : decode cX6_heaviest 14 = .ok (.iconst (-1), 1) := by decide +kernel
theorem dX6_heaviest_15 : decode cX6_heaviest 15 = .ok (.ireturn, 1) := by decide +kernel
theorem dX6_heaviest_16 : decode cX6_heaviest 16 = .ok (.aload_n 0, 1) := by decide +kernel
theorem dX6_heaviest_17 : decode cX6_heaviest 17 = .ok (.getfield 21, 3) := by decide +kernel
theorem dX6_heaviest_20 : decode cX6_heaviest 20 = .ok (.iload_n 1, 1) := by decide +kernel
theorem dX6_heaviest_21 : decode cX6_heaviest 21 = .ok (.invokevirtual 79, 3) := by decide +kernel
theorem dX6_heaviest_24 : decode cX6_heaviest 24 = .ok (.aload_n 0, 1) := by decide +kernel
theorem dX6_heaviest_25 : decode cX6_heaviest 25 = .ok (.getfield 21, 3) := by decide +kernel
theorem dX6_heaviest_28 : decode cX6_heaviest 28 = .ok (.iload_n 2, 1) := by decide +kernel
theorem dX6_heaviest_29 : decode cX6_heaviest 29 = .ok (.invokevirtual 112, 3) := by decide +kernel
theorem dX6_heaviest_32 : decode cX6_heaviest 32 = .ok (.ireturn, 1) := by decide +kernel
set_option maxRecDepth 20000 in
theorem ggX6_game_X6_isEither : GoodIn wsX6_game wsX6_isEither := goodIn_r _ [5] (by decide +kernel) (by decide +kernel)
set_option maxRecDepth 20000 in
theorem gX6_game_X6_isEither : GoodIn wsX6_game (va_wsS RX6 73 yX6_isEither wsX6_isEither) := goodIn_app (goodIn_of _ (by decide +kernel)) ggX6_game_X6_isEither
set_option maxRecDepth 20000 in
theorem ggX6_game_X0_inMillionths : GoodIn wsX6_game wsX0_inMillionths := goodIn_r _ [10, 11, 12, 13, 14, 15, 16, 9, 17, 18, 19, 20, 21, 22, 23, 24, 25, 26, 27, 28, 29, 30, 31, 32, 33, 34, 35, 36, 37, 38, 39, 40, 41, 42, 43, 44, 45, 46, 47, 48, 49, 50, 51, 52, 53, 54, 55, 56, 57, 58, 59, 60, 61, 62, 63, 64, 65, 66, 67, 68, 69, 70, 71, 72, 73, 74, 75, 76, 77, 83, 84, 85, 86, 87, 88, 89, 90, 91, 92, 93, 94, 95, 96] (by decide +kernel) (by decide +kernel)
set_option maxRecDepth 20000 in
theorem gX6_game_X0_inMillionths : GoodIn wsX6_game (wsV RX6 115 RX0 yX0_inMillionths wsX0_inMillionths) := goodIn_app (goodIn_of _ (by decide +kernel)) ggX6_game_X0_inMillionths
theorem dX6_game_0 : decode cX6_game 0 = .ok (.iload_n 1, 1) := by decide +kernel
theorem dX6_game_1 : decode cX6_game 1 = .ok (.invokestatic 73, 3) := by decide +kernel
theorem dX6_game_4 : decode cX6_game 4 = .ok (.ifCond .ne 5, 3) := by decide +kernel
theorem dX6_game_7 : decode cX6_game 7 = .ok (.iconst (-1), 1) := by decide +kernel
theorem dX6_game_8 : decode cX6_game 8 = .ok (.ireturn, 1) := by decide +kernel
theorem dX6_game_9 : decode cX6_game 9 = .ok (.aload_n 0, 1) := by decide +kernel
theorem dX6_game_10 : decode cX6_game 10 = .ok (.getfield 21, 3) := by decide +kernel
theorem dX6_game_13 : decode cX6_game 13 = .ok (.iload_n 1, 1) := by decide +kernel
theorem dX6_game_14 : decode cX6_game 14 = .ok (.invokevirtual 115, 3) := by decide +kernel
theorem dX6_game_17 : decode cX6_game 17 = .ok (.l2i, 1) := by decide +kernel

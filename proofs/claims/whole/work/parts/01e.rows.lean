theorem dX6_game_18 : decode cX6_game 18 = .ok (.ireturn, 1) := by decide +kernel
set_option maxRecDepth 20000 in
theorem ggX6_round_X6_within : GoodIn wsX6_round wsX6_within := goodIn_r _ [8] (by decide +kernel) (by decide +kernel)
set_option maxRecDepth 20000 in
theorem gX6_round_X6_within : GoodIn wsX6_round (va_wsS RX6 59 yX6_within wsX6_within) := goodIn_app (goodIn_of _ (by decide +kernel)) ggX6_round_X6_within
set_option maxRecDepth 20000 in
theorem ggX6_round_X6_isEither : GoodIn wsX6_round wsX6_isEither := goodIn_r _ [11] (by decide +kernel) (by decide +kernel)
set_option maxRecDepth 20000 in
theorem gX6_round_X6_isEither : GoodIn wsX6_round (va_wsS RX6 73 yX6_isEither wsX6_isEither) := goodIn_app (goodIn_of _ (by decide +kernel)) ggX6_round_X6_isEither
set_option maxRecDepth 20000 in
theorem ggX6_round_X0_inMillionths : GoodIn wsX6_round wsX0_inMillionths := goodIn_r _ [16, 17, 18, 19, 20, 21, 22, 15, 23, 24, 25, 26, 27, 28, 29, 30, 31, 32, 33, 34, 35, 36, 37, 38, 39, 40, 41, 42, 43, 44, 45, 46, 47, 48, 49, 50, 51, 52, 53, 54, 55, 56, 57, 58, 59, 60, 61, 62, 63, 64, 65, 66, 67, 68, 69, 70, 71, 72, 73, 74, 75, 76, 77, 78, 79, 80, 81, 82, 83, 119, 120, 121, 122, 123, 112, 113, 114, 115, 116, 117, 118, 124, 125] (by decide +kernel) (by decide +kernel)
set_option maxRecDepth 20000 in
theorem gX6_round_X0_inMillionths : GoodIn wsX6_round (wsV RX6 115 RX0 yX0_inMillionths wsX0_inMillionths) := goodIn_app (goodIn_of _ (by decide +kernel)) ggX6_round_X0_inMillionths
set_option maxRecDepth 20000 in
theorem ggX6_round_X2_ofSet : GoodIn wsX6_round wsX2_ofSet := goodIn_r _ [88, 89, 90, 91, 92, 93, 94, 95, 35, 96, 49, 50, 30, 51, 97, 98, 99, 100, 54, 55, 56, 101, 102, 87, 103, 104, 105, 76, 77, 67, 78, 69, 70, 71, 72, 73, 74, 106, 65, 66, 68, 126, 127, 128, 112, 113, 114, 115, 116, 117, 118, 124, 125] (by decide +kernel) (by decide +kernel)
set_option maxRecDepth 20000 in
theorem gX6_round_X2_ofSet : GoodIn wsX6_round (wsV RX6 122 RX2 yX2_ofSet wsX2_ofSet) := goodIn_app (goodIn_of _ (by decide +kernel)) ggX6_round_X2_ofSet
theorem dX6_round_0 : decode cX6_round 0 = .ok (.iload_n 1, 1) := by decide +kernel
theorem dX6_round_1 : decode cX6_round 1 = .ok (.iconst 0, 1) := by decide +kernel
theorem dX6_round_2 : decode cX6_round 2 = .ok (.aload_n 0, 1) := by decide +kernel
theorem dX6_round_3 : decode cX6_round 3 = .ok (.getfield 10, 3) := by decide +kernel
theorem dX6_round_6 : decode cX6_round 6 = .ok (.getfield 119, 3) := by decide +kernel
theorem dX6_round_9 : decode cX6_round 9 = .ok (.invokestatic 59, 3) := by decide +kernel
theorem dX6_round_12 : decode cX6_round 12 = .ok (.ifCond .eq 25, 3) := by decide +kernel
theorem dX6_round_15 : decode cX6_round 15 = .ok (.iload_n 2, 1) := by decide +kernel
theorem dX6_round_16 : decode cX6_round 16 = .ok (.iconst 0, 1) := by decide +kernel
theorem dX6_round_17 : decode cX6_round 17 = .ok (.aload_n 0, 1) := by decide +kernel
theorem dX6_round_18 : decode cX6_round 18 = .ok (.getfield 10, 3) := by decide +kernel
theorem dX6_round_21 : decode cX6_round 21 = .ok (.getfield 119, 3) := by decide +kernel
theorem dX6_round_24 : decode cX6_round 24 = .ok (.invokestatic 59, 3) := by decide +kernel
theorem dX6_round_27 : decode cX6_round 27 = .ok (.ifCond .eq 10, 3) := by decide +kernel
theorem dX6_round_30 : decode cX6_round 30 = .ok (.iload_n 3, 1) := by decide +kernel
theorem dX6_round_31 : decode cX6_round 31 = .ok (.invokestatic 73, 3) := by decide +kernel
theorem dX6_round_34 : decode cX6_round 34 = .ok (.ifCond .ne 5, 3) := by decide +kernel
theorem dX6_round_37 : decode cX6_round 37 = .ok (.iconst (-1), 1) := by decide +kernel
theorem dX6_round_38 : decode cX6_round 38 = .ok (.ireturn, 1) := by decide +kernel
theorem dX6_round_39 : decode cX6_round 39 = .ok (.aload_n 0, 1) := by decide +kernel
theorem dX6_round_40 : decode cX6_round 40 = .ok (.getfield 28, 3) := by decide +kernel
theorem dX6_round_43 : decode cX6_round 43 = .ok (.iload_n 1, 1) := by decide +kernel
theorem dX6_round_44 : decode cX6_round 44 = .ok (.iload_n 2, 1) := by decide +kernel
theorem dX6_round_45 : decode cX6_round 45 = .ok (.iload_n 3, 1) := by decide +kernel
theorem dX6_round_46 : decode cX6_round 46 = .ok (.aload_n 0, 1) := by decide +kernel
theorem dX6_round_47 : decode cX6_round 47 = .ok (.getfield 21, 3) := by decide +kernel
theorem dX6_round_50 : decode cX6_round 50 = .ok (.iconst 0, 1) := by decide +kernel
theorem dX6_round_51 : decode cX6_round 51 = .ok (.invokevirtual 115, 3) := by decide +kernel
theorem dX6_round_54 : decode cX6_round 54 = .ok (.aload_n 0, 1) := by decide +kernel
theorem dX6_round_55 : decode cX6_round 55 = .ok (.getfield 21, 3) := by decide +kernel
theorem dX6_round_58 : decode cX6_round 58 = .ok (.iconst 1, 1) := by decide +kernel
theorem dX6_round_59 : decode cX6_round 59 = .ok (.invokevirtual 115, 3) := by decide +kernel
theorem dX6_round_62 : decode cX6_round 62 = .ok (.invokevirtual 122, 3) := by decide +kernel
theorem dX6_round_65 : decode cX6_round 65 = .ok (.l2i, 1) := by decide +kernel
theorem dX6_round_66 : decode cX6_round 66 = .ok (.ireturn, 1) := by decide +kernel
set_option maxRecDepth 20000 in
theorem ggX6_match_X6_within : GoodIn wsX6_match wsX6_within := goodIn_r _ [8] (by decide +kernel) (by decide +kernel)
set_option maxRecDepth 20000 in
theorem gX6_match_X6_within : GoodIn wsX6_match (va_wsS RX6 59 yX6_within wsX6_within) := goodIn_app (goodIn_of _ (by decide +kernel)) ggX6_match_X6_within
set_option maxRecDepth 20000 in
theorem ggX6_match_X6_isEither : GoodIn wsX6_match wsX6_isEither := goodIn_r _ [11] (by decide +kernel) (by decide +kernel)
set_option maxRecDepth 20000 in
theorem gX6_match_X6_isEither : GoodIn wsX6_match (va_wsS RX6 73 yX6_isEither wsX6_isEither) := goodIn_app (goodIn_of _ (by decide +kernel)) ggX6_match_X6_isEither
set_option maxRecDepth 20000 in
theorem ggX6_match_X0_inMillionths : GoodIn wsX6_match wsX0_inMillionths := goodIn_r _ [16, 17, 18, 19, 20, 21, 22, 15, 23, 24, 25, 26, 27, 28, 29, 30, 31, 32, 33, 34, 35, 36, 37, 38, 39, 40, 41, 42, 43, 44, 45, 46, 47, 48, 49, 50, 51, 52, 53, 54, 55, 56, 57, 58, 59, 60, 61, 62, 63, 64, 65, 66, 67, 68, 69, 70, 71, 72, 73, 74, 75, 76, 77, 78, 79, 80, 81, 82, 83, 130, 131, 132, 133, 134, 123, 124, 125, 126, 127, 128, 129, 135, 136] (by decide +kernel) (by decide +kernel)
set_option maxRecDepth 20000 in
theorem gX6_match_X0_inMillionths : GoodIn wsX6_match (wsV RX6 115 RX0 yX0_inMillionths wsX0_inMillionths) := goodIn_app (goodIn_of _ (by decide +kernel)) ggX6_match_X0_inMillionths
set_option maxRecDepth 20000 in
theorem ggX6_match_X2_ofMatch : GoodIn wsX6_match wsX2_ofMatch := goodIn_r _ [88, 89, 90, 91, 92, 93, 94, 87, 95, 96, 97, 98, 99, 100, 101, 35, 102, 49, 50, 30, 51, 103, 104, 105, 106, 54, 55, 56, 107, 108, 109, 110, 111, 76, 77, 67, 78, 69, 70, 71, 72, 73, 74, 112, 65, 66, 68, 113, 114, 115, 116, 117, 137, 138, 139, 123, 124, 125, 126, 127, 128, 129, 135, 136] (by decide +kernel) (by decide +kernel)
set_option maxRecDepth 20000 in
theorem gX6_match_X2_ofMatch : GoodIn wsX6_match (wsV RX6 129 RX2 yX2_ofMatch wsX2_ofMatch) := goodIn_app (goodIn_of _ (by decide +kernel)) ggX6_match_X2_ofMatch
theorem dX6_match_0 : decode cX6_match 0 = .ok (.iload_n 1, 1) := by decide +kernel
theorem dX6_match_1 : decode cX6_match 1 = .ok (.iconst 0, 1) := by decide +kernel
theorem dX6_match_2 : decode cX6_match 2 = .ok (.aload_n 0, 1) := by decide +kernel
theorem dX6_match_3 : decode cX6_match 3 = .ok (.getfield 10, 3) := by decide +kernel
theorem dX6_match_6 : decode cX6_match 6 = .ok (.getfield 126, 3) := by decide +kernel
theorem dX6_match_9 : decode cX6_match 9 = .ok (.invokestatic 59, 3) := by decide +kernel
theorem dX6_match_12 : decode cX6_match 12 = .ok (.ifCond .eq 25, 3) := by decide +kernel
theorem dX6_match_15 : decode cX6_match 15 = .ok (.iload_n 2, 1) := by decide +kernel
theorem dX6_match_16 : decode cX6_match 16 = .ok (.iconst 0, 1) := by decide +kernel
theorem dX6_match_17 : decode cX6_match 17 = .ok (.aload_n 0, 1) := by decide +kernel
theorem dX6_match_18 : decode cX6_match 18 = .ok (.getfield 10, 3) := by decide +kernel
theorem dX6_match_21 : decode cX6_match 21 = .ok (.getfield 126, 3) := by decide +kernel
theorem dX6_match_24 : decode cX6_match 24 = .ok (.invokestatic 59, 3) := by decide +kernel
theorem dX6_match_27 : decode cX6_match 27 = .ok (.ifCond .eq 10, 3) := by decide +kernel
theorem dX6_match_30 : decode cX6_match 30 = .ok (.iload_n 3, 1) := by decide +kernel
theorem dX6_match_31 : decode cX6_match 31 = .ok (.invokestatic 73, 3) := by decide +kernel
theorem dX6_match_34 : decode cX6_match 34 = .ok (.ifCond .ne 5, 3) := by decide +kernel
theorem dX6_match_37 : decode cX6_match 37 = .ok (.iconst (-1), 1) := by decide +kernel
theorem dX6_match_38 : decode cX6_match 38 = .ok (.ireturn, 1) := by decide +kernel
theorem dX6_match_39 : decode cX6_match 39 = .ok (.iload_n 1, 1) := by decide +kernel
theorem dX6_match_40 : decode cX6_match 40 = .ok (.aload_n 0, 1) := by decide +kernel
theorem dX6_match_41 : decode cX6_match 41 = .ok (.getfield 10, 3) := by decide +kernel
theorem dX6_match_44 : decode cX6_match 44 = .ok (.getfield 126, 3) := by decide +kernel
theorem dX6_match_47 : decode cX6_match 47 = .ok (.if_icmp .ne 16, 3) := by decide +kernel
theorem dX6_match_50 : decode cX6_match 50 = .ok (.iload_n 2, 1) := by decide +kernel
theorem dX6_match_51 : decode cX6_match 51 = .ok (.aload_n 0, 1) := by decide +kernel
theorem dX6_match_52 : decode cX6_match 52 = .ok (.getfield 10, 3) := by decide +kernel
theorem dX6_match_55 : decode cX6_match 55 = .ok (.getfield 126, 3) := by decide +kernel
theorem dX6_match_58 : decode cX6_match 58 = .ok (.if_icmp .ne 5, 3) := by decide +kernel
theorem dX6_match_61 : decode cX6_match 61 = .ok (.iconst (-1), 1) := by decide +kernel
theorem dX6_match_62 : decode cX6_match 62 = .ok (.ireturn, 1) := by decide +kernel
theorem dX6_match_63 : decode cX6_match 63 = .ok (.aload_n 0, 1) := by decide +kernel
theorem dX6_match_64 : decode cX6_match 64 = .ok (.getfield 28, 3) := by decide +kernel
theorem dX6_match_67 : decode cX6_match 67 = .ok (.iload_n 1, 1) := by decide +kernel
theorem dX6_match_68 : decode cX6_match 68 = .ok (.iload_n 2, 1) := by decide +kernel
theorem dX6_match_69 : decode cX6_match 69 = .ok (.iload_n 3, 1) := by decide +kernel
theorem dX6_match_70 : decode cX6_match 70 = .ok (.aload_n 0, 1) := by decide +kernel
theorem dX6_match_71 : decode cX6_match 71 = .ok (.getfield 21, 3) := by decide +kernel
theorem dX6_match_74 : decode cX6_match 74 = .ok (.iconst 0, 1) := by decide +kernel
theorem dX6_match_75 : decode cX6_match 75 = .ok (.invokevirtual 115, 3) := by decide +kernel
theorem dX6_match_78 : decode cX6_match 78 = .ok (.aload_n 0, 1) := by decide +kernel
theorem dX6_match_79 : decode cX6_match 79 = .ok (.getfield 21, 3) := by decide +kernel
theorem dX6_match_82 : decode cX6_match 82 = .ok (.iconst 1, 1) := by decide +kernel
theorem dX6_match_83 : decode cX6_match 83 = .ok (.invokevirtual 115, 3) := by decide +kernel
theorem dX6_match_86 : decode cX6_match 86 = .ok (.invokevirtual 129, 3) := by decide +kernel
theorem dX6_match_89 : decode cX6_match 89 = .ok (.l2i, 1) := by decide +kernel
theorem dX6_match_90 : decode cX6_match 90 = .ok (.ireturn, 1) := by decide +kernel
set_option maxRecDepth 20000 in
theorem ggX6_point_X6_isEither : GoodIn wsX6_point wsX6_isEither := goodIn_r _ [6] (by decide +kernel) (by decide +kernel)
set_option maxRecDepth 20000 in
theorem gX6_point_X6_isEither : GoodIn wsX6_point (va_wsS RX6 73 yX6_isEither wsX6_isEither) := goodIn_app (goodIn_of _ (by decide +kernel)) ggX6_point_X6_isEither
set_option maxRecDepth 20000 in
theorem ggX6_point_X4_matchWinner : GoodIn wsX6_point wsX4_matchWinner := goodIn_r _ [11, 12, 13, 14, 15, 16, 17, 18, 19, 20, 21, 22, 23, 24, 91, 92, 93, 94, 95, 96, 97, 98, 99, 100, 101, 102, 103, 104, 105, 106, 107, 108, 109] (by decide +kernel) (by decide +kernel)
set_option maxRecDepth 20000 in
theorem gX6_point_X4_matchWinner : GoodIn wsX6_point (wsV RX6 132 RX4 yX4_matchWinner wsX4_matchWinner) := goodIn_app (goodIn_of _ (by decide +kernel)) ggX6_point_X4_matchWinner
set_option maxRecDepth 20000 in
theorem ggX6_point_X4_tell : GoodIn wsX6_point wsX4_tell := goodIn_r _ [28, 29, 30, 31, 32, 33, 34, 12, 35, 15, 36, 37, 38, 39, 40, 41, 42, 43, 44, 45, 10, 46, 14, 47, 48, 49, 19, 50, 51, 52, 53, 54, 55, 56, 57, 58, 59, 60, 61, 62, 63, 22, 23, 24, 64, 65, 66, 67, 68, 69, 70, 71, 72, 73, 74, 75, 76, 77, 78, 79, 80, 81, 82, 83, 84, 13, 85, 91, 92, 93, 94, 95, 96, 97, 98, 99, 100, 103, 104, 105, 106, 107, 108, 109, 101, 102] (by decide +kernel) (by decide +kernel)
set_option maxRecDepth 20000 in
theorem gX6_point_X4_tell : GoodIn wsX6_point (wsV RX6 136 RX4 yX4_tell wsX4_tell) := goodIn_app (goodIn_of _ (by decide +kernel)) ggX6_point_X4_tell
theorem dX6_point_0 : decode cX6_point 0 = .ok (.iload_n 1, 1) := by decide +kernel
theorem dX6_point_1 : decode cX6_point 1 = .ok (.invokestatic 73, 3) := by decide +kernel
theorem dX6_point_4 : decode cX6_point 4 = .ok (.ifCond .ne 5, 3) := by decide +kernel
theorem dX6_point_7 : decode cX6_point 7 = .ok (.iconst (-1), 1) := by decide +kernel
theorem dX6_point_8 : decode cX6_point 8 = .ok (.ireturn, 1) := by decide +kernel
theorem dX6_point_9 : decode cX6_point 9 = .ok (.aload_n 0, 1) := by decide +kernel
theorem dX6_point_10 : decode cX6_point 10 = .ok (.getfield 35, 3) := by decide +kernel
theorem dX6_point_13 : decode cX6_point 13 = .ok (.invokevirtual 132, 3) := by decide +kernel
theorem dX6_point_16 : decode cX6_point 16 = .ok (.bipush (-9), 2) := by decide +kernel
theorem dX6_point_18 : decode cX6_point 18 = .ok (.if_icmp .eq 6, 3) := by decide +kernel
theorem dX6_point_21 : decode cX6_point 21 = .ok (.bipush (-2), 2) := by decide +kernel
theorem dX6_point_23 : decode cX6_point 23 = .ok (.ireturn, 1) := by decide +kernel
theorem dX6_point_24 : decode cX6_point 24 = .ok (.aload_n 0, 1) := by decide +kernel
theorem dX6_point_25 : decode cX6_point 25 = .ok (.getfield 35, 3) := by decide +kernel
theorem dX6_point_28 : decode cX6_point 28 = .ok (.getfield 47, 3) := by decide +kernel
theorem dX6_point_31 : decode cX6_point 31 = .ok (.sipush 400, 3) := by decide +kernel
theorem dX6_point_34 : decode cX6_point 34 = .ok (.if_icmp .lt 6, 3) := by decide +kernel
theorem dX6_point_37 : decode cX6_point 37 = .ok (.bipush (-3), 2) := by decide +kernel
theorem dX6_point_39 : decode cX6_point 39 = .ok (.ireturn, 1) := by decide +kernel
theorem dX6_point_40 : decode cX6_point 40 = .ok (.aload_n 0, 1) := by decide +kernel
theorem dX6_point_41 : decode cX6_point 41 = .ok (.getfield 35, 3) := by decide +kernel
theorem dX6_point_44 : decode cX6_point 44 = .ok (.iload_n 1, 1) := by decide +kernel
theorem dX6_point_45 : decode cX6_point 45 = .ok (.invokevirtual 136, 3) := by decide +kernel
theorem dX6_point_48 : decode cX6_point 48 = .ok (.aload_n 0, 1) := by decide +kernel
theorem dX6_point_49 : decode cX6_point 49 = .ok (.getfield 35, 3) := by decide +kernel
theorem dX6_point_52 : decode cX6_point 52 = .ok (.getfield 47, 3) := by decide +kernel
theorem dX6_point_55 : decode cX6_point 55 = .ok (.ireturn, 1) := by decide +kernel
set_option maxRecDepth 20000 in
theorem ggX6_back_X6_within : GoodIn wsX6_back wsX6_within := goodIn_r _ [5] (by decide +kernel) (by decide +kernel)
set_option maxRecDepth 20000 in
theorem gX6_back_X6_within : GoodIn wsX6_back (va_wsS RX6 59 yX6_within wsX6_within) := goodIn_app (goodIn_of _ (by decide +kernel)) ggX6_back_X6_within
set_option maxRecDepth 20000 in
theorem ggX6_back_X4_takeBack : GoodIn wsX6_back wsX4_takeBack := goodIn_r _ [10, 11, 12, 13, 14, 15, 16, 17, 18, 19, 9, 20, 21, 22, 23, 24, 25, 26, 27, 28, 29, 30, 31, 32, 33, 34, 35, 36, 37, 38, 39, 40, 41, 42, 43, 44, 45, 46, 47, 48, 49, 50, 51, 52, 53, 54, 55, 56, 57, 58, 59, 60, 61, 62, 63, 64, 65, 66, 67, 68, 69, 70, 71, 72, 73, 74, 75, 76, 77, 78, 79, 80, 81, 82, 83, 84, 90, 91, 92, 93, 94, 95, 96, 97, 98, 99, 100, 101, 102, 103, 104, 105, 106, 107, 108] (by decide +kernel) (by decide +kernel)
set_option maxRecDepth 20000 in
theorem gX6_back_X4_takeBack : GoodIn wsX6_back (wsV RX6 138 RX4 yX4_takeBack wsX4_takeBack) := goodIn_app (goodIn_of _ (by decide +kernel)) ggX6_back_X4_takeBack
theorem dX6_back_0 : decode cX6_back 0 = .ok (.iload_n 1, 1) := by decide +kernel
theorem dX6_back_1 : decode cX6_back 1 = .ok (.iconst 1, 1) := by decide +kernel
theorem dX6_back_2 : decode cX6_back 2 = .ok (.sipush 400, 3) := by decide +kernel
theorem dX6_back_5 : decode cX6_back 5 = .ok (.invokestatic 59, 3) := by decide +kernel
theorem dX6_back_8 : decode cX6_back 8 = .ok (.ifCond .ne 5, 3) := by decide +kernel
theorem dX6_back_11 : decode cX6_back 11 = .ok (.iconst (-1), 1) := by decide +kernel
theorem dX6_back_12 : decode cX6_back 12 = .ok (.ireturn, 1) := by decide +kernel
theorem dX6_back_13 : decode cX6_back 13 = .ok (.aload_n 0, 1) := by decide +kernel
theorem dX6_back_14 : decode cX6_back 14 = .ok (.getfield 35, 3) := by decide +kernel
theorem dX6_back_17 : decode cX6_back 17 = .ok (.iload_n 1, 1) := by decide +kernel
theorem dX6_back_18 : decode cX6_back 18 = .ok (.invokevirtual 138, 3) := by decide +kernel
theorem dX6_back_21 : decode cX6_back 21 = .ok (.ireturn, 1) := by decide +kernel
set_option maxRecDepth 20000 in
theorem ggX6_score_X6_within : GoodIn wsX6_score wsX6_within := goodIn_r _ [5] (by decide +kernel) (by decide +kernel)
set_option maxRecDepth 20000 in
theorem gX6_score_X6_within : GoodIn wsX6_score (va_wsS RX6 59 yX6_within wsX6_within) := goodIn_app (goodIn_of _ (by decide +kernel)) ggX6_score_X6_within
set_option maxRecDepth 20000 in
theorem ggX6_score_X4_told : GoodIn wsX6_score wsX4_told := goodIn_r _ [10, 11, 12, 13, 14, 15, 16, 17, 18, 19, 20, 21, 22, 9, 23, 24, 25, 26, 27, 28, 29, 30, 31, 32, 33, 34, 35, 36, 37, 38, 39, 40, 41, 42, 48, 49, 50, 51, 52, 53, 54, 55, 56, 57, 58, 59, 60, 61, 62, 63, 64, 65, 66] (by decide +kernel) (by decide +kernel)
set_option maxRecDepth 20000 in
theorem gX6_score_X4_told : GoodIn wsX6_score (wsV RX6 141 RX4 yX4_told wsX4_told) := goodIn_app (goodIn_of _ (by decide +kernel)) ggX6_score_X4_told
theorem dX6_score_0 : decode cX6_score 0 = .ok (.iload_n 1, 1) := by decide +kernel
theorem dX6_score_1 : decode cX6_score 1 = .ok (.iconst 0, 1) := by decide +kernel
theorem dX6_score_2 : decode cX6_score 2 = .ok (.bipush 12, 2) := by decide +kernel
theorem dX6_score_4 : decode cX6_score 4 = .ok (.invokestatic 59, 3) := by decide +kernel
theorem dX6_score_7 : decode cX6_score 7 = .ok (.ifCond .ne 5, 3) := by decide +kernel
theorem dX6_score_10 : decode cX6_score 10 = .ok (.iconst (-1), 1) := by decide +kernel
theorem dX6_score_11 : decode cX6_score 11 = .ok (.ireturn, 1) := by decide +kernel
theorem dX6_score_12 : decode cX6_score 12 = .ok (.aload_n 0, 1) := by decide +kernel
theorem dX6_score_13 : decode cX6_score 13 = .ok (.getfield 35, 3) := by decide +kernel
theorem dX6_score_16 : decode cX6_score 16 = .ok (.iload_n 1, 1) := by decide +kernel
theorem dX6_score_17 : decode cX6_score 17 = .ok (.invokevirtual 141, 3) := by decide +kernel
theorem dX6_score_20 : decode cX6_score 20 = .ok (.ireturn, 1) := by decide +kernel
set_option maxRecDepth 20000 in
theorem ggX6_likeliest_X6_within : GoodIn wsX6_likeliest wsX6_within := goodIn_r _ [4] (by decide +kernel) (by decide +kernel)
set_option maxRecDepth 20000 in
theorem gX6_likeliest_X6_within : GoodIn wsX6_likeliest (va_wsS RX6 59 yX6_within wsX6_within) := goodIn_app (goodIn_of _ (by decide +kernel)) ggX6_likeliest_X6_within
set_option maxRecDepth 20000 in
theorem ggX6_likeliest_X6_likelihood : GoodIn wsX6_likeliest wsX6_likelihood := goodIn_r _ [7] (by decide +kernel) (by decide +kernel)
set_option maxRecDepth 20000 in
theorem gX6_likeliest_X6_likelihood : GoodIn wsX6_likeliest (va_wsS RX6 142 yX6_likelihood wsX6_likelihood) := goodIn_app (goodIn_of _ (by decide +kernel)) ggX6_likeliest_X6_likelihood
theorem dX6_likeliest_0 : decode cX6_likeliest 0 = .ok (.iload_n 1, 1) := by decide +kernel
theorem dX6_likeliest_1 : decode cX6_likeliest 1 = .ok (.iconst 0, 1) := by decide +kernel
theorem dX6_likeliest_2 : decode cX6_likeliest 2 = .ok (.bipush 18, 2) := by decide +kernel
theorem dX6_likeliest_4 : decode cX6_likeliest 4 = .ok (.invokestatic 59, 3) := by decide +kernel
theorem dX6_likeliest_7 : decode cX6_likeliest 7 = .ok (.ifCond .eq 21, 3) := by decide +kernel
theorem dX6_likeliest_10 : decode cX6_likeliest 10 = .ok (.iload_n 2, 1) := by decide +kernel
theorem dX6_likeliest_11 : decode cX6_likeliest 11 = .ok (.iconst 0, 1) := by decide +kernel
theorem dX6_likeliest_12 : decode cX6_likeliest 12 = .ok (.bipush 18, 2) := by decide +kernel
theorem dX6_likeliest_14 : decode cX6_likeliest 14 = .ok (.invokestatic 59, 3) := by decide +kernel
theorem dX6_likeliest_17 : decode cX6_likeliest 17 = .ok (.ifCond .eq 11, 3) := by decide +kernel
theorem dX6_likeliest_20 : decode cX6_likeliest 20 = .ok (.iload_n 1, 1) := by decide +kernel
theorem dX6_likeliest_21 : decode cX6_likeliest 21 = .ok (.iload_n 2, 1) := by decide +kernel
theorem dX6_likeliest_22 : decode cX6_likeliest 22 = .ok (.iadd, 1) := by decide +kernel
theorem dX6_likeliest_23 : decode cX6_likeliest 23 = .ok (.bipush 18, 2) := by decide +kernel
theorem dX6_likeliest_25 : decode cX6_likeliest 25 = .ok (.if_icmp .le 5, 3) := by decide +kernel
theorem dX6_likeliest_28 : decode cX6_likeliest 28 = .ok (.iconst (-1), 1) := by decide +kernel
theorem dX6_likeliest_29 : decode cX6_likeliest 29 = .ok (.ireturn, 1) := by decide +kernel
theorem dX6_likeliest_30 : decode cX6_likeliest 30 = .ok (.iconst 1, 1) := by decide +kernel
theorem dX6_likeliest_31 : decode cX6_likeliest 31 = .ok (.istore_n 3, 1) := by decide +kernel
theorem dX6_likeliest_32 : decode cX6_likeliest 32 = .ok (.iconst 2, 1) := by decide +kernel
theorem dX6_likeliest_33 : decode cX6_likeliest 33 = .ok (.istore 4, 2) := by decide +kernel
theorem dX6_likeliest_35 : decode cX6_likeliest 35 = .ok (.iload 4, 2) := by decide +kernel
theorem dX6_likeliest_37 : decode cX6_likeliest 37 = .ok (.bipush 9, 2) := by decide +kernel
theorem dX6_likeliest_39 : decode cX6_likeliest 39 = .ok (.if_icmp .gt 29, 3) := by decide +kernel
theorem dX6_likeliest_42 : decode cX6_likeliest 42 = .ok (.iload 4, 2) := by decide +kernel
theorem dX6_likeliest_44 : decode cX6_likeliest 44 = .ok (.iload_n 1, 1) := by decide +kernel
theorem dX6_likeliest_45 : decode cX6_likeliest 45 = .ok (.iload_n 2, 1) := by decide +kernel
theorem dX6_likeliest_46 : decode cX6_likeliest 46 = .ok (.invokestatic 142, 3) := by decide +kernel
theorem dX6_likeliest_49 : decode cX6_likeliest 49 = .ok (.iload_n 3, 1) := by decide +kernel
theorem dX6_likeliest_50 : decode cX6_likeliest 50 = .ok (.iload_n 1, 1) := by decide +kernel
theorem dX6_likeliest_51 : decode cX6_likeliest 51 = .ok (.iload_n 2, 1) := by decide +kernel
theorem dX6_likeliest_52 : decode cX6_likeliest 52 = .ok (.invokestatic 142, 3) := by decide +kernel
theorem dX6_likeliest_55 : decode cX6_likeliest 55 = .ok (.lcmp, 1) := by decide +kernel
theorem dX6_likeliest_56 : decode cX6_likeliest 56 = .ok (.ifCond .le 6, 3) := by decide +kernel
theorem dX6_likeliest_59 : decode cX6_likeliest 59 = .ok (.iload 4, 2) := by decide +kernel
theorem dX6_likeliest_61 : decode cX6_likeliest 61 = .ok (.istore_n 3, 1) := by decide +kernel
theorem dX6_likeliest_62 : decode cX6_likeliest 62 = .ok (.iinc 4 1, 3) := by decide +kernel
theorem dX6_likeliest_65 : decode cX6_likeliest 65 = .ok (.goto (-30), 3) := by decide +kernel
theorem dX6_likeliest_68 : decode cX6_likeliest 68 = .ok (.iload_n 3, 1) := by decide +kernel
theorem dX6_likeliest_69 : decode cX6_likeliest 69 = .ok (.ireturn, 1) := by decide +kernel
set_option maxRecDepth 20000 in
theorem ggX6_count_X5_told : GoodIn wsX6_count wsX5_told := goodIn_r _ [6, 7, 8, 9, 10, 11, 12, 13, 19, 20, 21, 22, 23, 24, 25] (by decide +kernel) (by decide +kernel)
set_option maxRecDepth 20000 in
theorem gX6_count_X5_told : GoodIn wsX6_count (wsV RX6 51 RX5 yX5_told wsX5_told) := goodIn_app (goodIn_of _ (by decide +kernel)) ggX6_count_X5_told
theorem dX6_count_0 : decode cX6_count 0 = .ok (.aload_n 0, 1) := by decide +kernel
theorem dX6_count_1 : decode cX6_count 1 = .ok (.getfield 10, 3) := by decide +kernel
theorem dX6_count_4 : decode cX6_count 4 = .ok (.iload_n 1, 1) := by decide +kernel
theorem dX6_count_5 : decode cX6_count 5 = .ok (.invokevirtual 51, 3) := by decide +kernel
theorem dX6_count_8 : decode cX6_count 8 = .ok (.ireturn, 1) := by decide +kernel
theorem dX6_trace_0 : decode cX6_trace 0 = .ok (.aload_n 0, 1) := by decide +kernel
theorem dX6_trace_1 : decode cX6_trace 1 = .ok (.getfield 39, 3) := by decide +kernel
theorem dX6_trace_4 : decode cX6_trace 4 = .ok (.lreturn, 1) := by decide +kernel
theorem dX6_within_0 : decode cX6_within 0 = .ok (.iload_n 1, 1) := by decide +kernel
theorem dX6_within_1 : decode cX6_within 1 = .ok (.iload_n 0, 1) := by decide +kernel
theorem dX6_within_2 : decode cX6_within 2 = .ok (.if_icmp .gt 12, 3) := by decide +kernel
theorem dX6_within_5 : decode cX6_within 5 = .ok (.iload_n 0, 1) := by decide +kernel
theorem dX6_within_6 : decode cX6_within 6 = .ok (.iload_n 2, 1) := by decide +kernel
theorem dX6_within_7 : decode cX6_within 7 = .ok (.if_icmp .gt 7, 3) := by decide +kernel
theorem dX6_within_10 : decode cX6_within 10 = .ok (.iconst 1, 1) := by decide +kernel
theorem dX6_within_11 : decode cX6_within 11 = .ok (.goto 4, 3) := by decide +kernel
theorem dX6_within_14 : decode cX6_within 14 = .ok (.iconst 0, 1) := by decide +kernel
theorem dX6_within_15 : decode cX6_within 15 = .ok (.ireturn, 1) := by decide +kernel
theorem dX6_isEither_0 : decode cX6_isEither 0 = .ok (.iload_n 0, 1) := by decide +kernel
theorem dX6_isEither_1 : decode cX6_isEither 1 = .ok (.ifCond .eq 8, 3) := by decide +kernel
theorem dX6_isEither_4 : decode cX6_isEither 4 = .ok (.iload_n 0, 1) := by decide +kernel
theorem dX6_isEither_5 : decode cX6_isEither 5 = .ok (.iconst 1, 1) := by decide +kernel
theorem dX6_isEither_6 : decode cX6_isEither 6 = .ok (.if_icmp .ne 7, 3) := by decide +kernel
theorem dX6_isEither_9 : decode cX6_isEither 9 = .ok (.iconst 1, 1) := by decide +kernel
theorem dX6_isEither_10 : decode cX6_isEither 10 = .ok (.goto 4, 3) := by decide +kernel
theorem dX6_isEither_13 : decode cX6_isEither 13 = .ok (.iconst 0, 1) := by decide +kernel
theorem dX6_isEither_14 : decode cX6_isEither 14 = .ok (.ireturn, 1) := by decide +kernel
set_option maxRecDepth 20000 in
theorem ggX6_isScore_X6_within : GoodIn wsX6_isScore wsX6_within := goodIn_r _ [7] (by decide +kernel) (by decide +kernel)
set_option maxRecDepth 20000 in
theorem gX6_isScore_X6_within : GoodIn wsX6_isScore (va_wsS RX6 59 yX6_within wsX6_within) := goodIn_app (goodIn_of _ (by decide +kernel)) ggX6_isScore_X6_within
theorem dX6_isScore_0 : decode cX6_isScore 0 = .ok (.aload_n 0, 1) := by decide +kernel
theorem dX6_isScore_1 : decode cX6_isScore 1 = .ok (.getfield 10, 3) := by decide +kernel
theorem dX6_isScore_4 : decode cX6_isScore 4 = .ok (.getfield 106, 3) := by decide +kernel
theorem dX6_isScore_7 : decode cX6_isScore 7 = .ok (.istore_n 3, 1) := by decide +kernel
theorem dX6_isScore_8 : decode cX6_isScore 8 = .ok (.iload_n 1, 1) := by decide +kernel
theorem dX6_isScore_9 : decode cX6_isScore 9 = .ok (.iconst 0, 1) := by decide +kernel
theorem dX6_isScore_10 : decode cX6_isScore 10 = .ok (.iload_n 3, 1) := by decide +kernel
theorem dX6_isScore_11 : decode cX6_isScore 11 = .ok (.invokestatic 59, 3) := by decide +kernel
theorem dX6_isScore_14 : decode cX6_isScore 14 = .ok (.ifCond .eq 36, 3) := by decide +kernel
theorem dX6_isScore_17 : decode cX6_isScore 17 = .ok (.iload_n 2, 1) := by decide +kernel
theorem dX6_isScore_18 : decode cX6_isScore 18 = .ok (.iconst 0, 1) := by decide +kernel
theorem dX6_isScore_19 : decode cX6_isScore 19 = .ok (.iload_n 3, 1) := by decide +kernel
theorem dX6_isScore_20 : decode cX6_isScore 20 = .ok (.invokestatic 59, 3) := by decide +kernel
theorem dX6_isScore_23 : decode cX6_isScore 23 = .ok (.ifCond .eq 27, 3) := by decide +kernel
theorem dX6_isScore_26 : decode cX6_isScore 26 = .ok (.aload_n 0, 1) := by decide +kernel
theorem dX6_isScore_27 : decode cX6_isScore 27 = .ok (.getfield 10, 3) := by decide +kernel
theorem dX6_isScore_30 : decode cX6_isScore 30 = .ok (.getfield 103, 3) := by decide +kernel
theorem dX6_isScore_33 : decode cX6_isScore 33 = .ok (.ifCond .eq 13, 3) := by decide +kernel
theorem dX6_isScore_36 : decode cX6_isScore 36 = .ok (.iload_n 1, 1) := by decide +kernel
theorem dX6_isScore_37 : decode cX6_isScore 37 = .ok (.iload_n 3, 1) := by decide +kernel
theorem dX6_isScore_38 : decode cX6_isScore 38 = .ok (.if_icmp .lt 8, 3) := by decide +kernel
theorem dX6_isScore_41 : decode cX6_isScore 41 = .ok (.iload_n 2, 1) := by decide +kernel
theorem dX6_isScore_42 : decode cX6_isScore 42 = .ok (.iload_n 3, 1) := by decide +kernel
theorem dX6_isScore_43 : decode cX6_isScore 43 = .ok (.if_icmp .ge 7, 3) := by decide +kernel
theorem dX6_isScore_46 : decode cX6_isScore 46 = .ok (.iconst 1, 1) := by decide +kernel
theorem dX6_isScore_47 : decode cX6_isScore 47 = .ok (.goto 4, 3) := by decide +kernel
theorem dX6_isScore_50 : decode cX6_isScore 50 = .ok (.iconst 0, 1) := by decide +kernel
theorem dX6_isScore_51 : decode cX6_isScore 51 = .ok (.ireturn, 1) := by decide +kernel
theorem dX6_asked_0 : decode cX6_asked 0 = .ok (.iload_n 0, 1) := by decide +kernel
theorem dX6_asked_1 : decode cX6_asked 1 = .ok (.ifCond .ne 7, 3) := by decide +kernel
theorem dX6_asked_4 : decode cX6_asked 4 = .ok (.iconst 1, 1) := by decide +kernel
theorem dX6_asked_5 : decode cX6_asked 5 = .ok (.goto 15, 3) := by decide +kernel
theorem dX6_asked_8 : decode cX6_asked 8 = .ok (.iload_n 0, 1) := by decide +kernel
theorem dX6_asked_9 : decode cX6_asked 9 = .ok (.iconst 1, 1) := by decide +kernel
theorem dX6_asked_10 : decode cX6_asked 10 = .ok (.if_icmp .ne 8, 3) := by decide +kernel
theorem dX6_asked_13 : decode cX6_asked 13 = .ok (.bipush 11, 2) := by decide +kernel
theorem dX6_asked_15 : decode cX6_asked 15 = .ok (.goto 5, 3) := by decide +kernel
theorem dX6_asked_18 : decode cX6_asked 18 = .ok (.bipush 111, 2) := by decide +kernel
theorem dX6_asked_20 : decode cX6_asked 20 = .ok (.ireturn, 1) := by decide +kernel
theorem dX6_likelihood_0 : decode cX6_likelihood 0 = .ok (.lconst 1, 1) := by decide +kernel
theorem dX6_likelihood_1 : decode cX6_likelihood 1 = .ok (.lstore_n 3, 1) := by decide +kernel
theorem dX6_likelihood_2 : decode cX6_likelihood 2 = .ok (.iconst 0, 1) := by decide +kernel
theorem dX6_likelihood_3 : decode cX6_likelihood 3 = .ok (.istore 5, 2) := by decide +kernel
theorem dX6_likelihood_5 : decode cX6_likelihood 5 = .ok (.iload 5, 2) := by decide +kernel
theorem dX6_likelihood_7 : decode cX6_likelihood 7 = .ok (.iload_n 1, 1) := by decide +kernel
theorem dX6_likelihood_8 : decode cX6_likelihood 8 = .ok (.if_icmp .ge 14, 3) := by decide +kernel
theorem dX6_likelihood_11 : decode cX6_likelihood 11 = .ok (.lload_n 3, 1) := by decide +kernel
theorem dX6_likelihood_12 : decode cX6_likelihood 12 = .ok (.iload_n 0, 1) := by decide +kernel
theorem dX6_likelihood_13 : decode cX6_likelihood 13 = .ok (.i2l, 1) := by decide +kernel
theorem dX6_likelihood_14 : decode cX6_likelihood 14 = .ok (.lmul, 1) := by decide +kernel
theorem dX6_likelihood_15 : decode cX6_likelihood 15 = .ok (.lstore_n 3, 1) := by decide +kernel
theorem dX6_likelihood_16 : decode cX6_likelihood 16 = .ok (.iinc 5 1, 3) := by decide +kernel
theorem dX6_likelihood_19 : decode cX6_likelihood 19 = .ok (.goto (-14), 3) := by decide +kernel
theorem dX6_likelihood_22 : decode cX6_likelihood 22 = .ok (.iconst 0, 1) := by decide +kernel
theorem dX6_likelihood_23 : decode cX6_likelihood 23 = .ok (.istore 5, 2) := by decide +kernel
theorem dX6_likelihood_25 : decode cX6_likelihood 25 = .ok (.iload 5, 2) := by decide +kernel
theorem dX6_likelihood_27 : decode cX6_likelihood 27 = .ok (.iload_n 2, 1) := by decide +kernel
theorem dX6_likelihood_28 : decode cX6_likelihood 28 = .ok (.if_icmp .ge 17, 3) := by decide +kernel
theorem dX6_likelihood_31 : decode cX6_likelihood 31 = .ok (.lload_n 3, 1) := by decide +kernel
theorem dX6_likelihood_32 : decode cX6_likelihood 32 = .ok (.bipush 10, 2) := by decide +kernel
theorem dX6_likelihood_34 : decode cX6_likelihood 34 = .ok (.iload_n 0, 1) := by decide +kernel
theorem dX6_likelihood_35 : decode cX6_likelihood 35 = .ok (.isub, 1) := by decide +kernel
theorem dX6_likelihood_36 : decode cX6_likelihood 36 = .ok (.i2l, 1) := by decide +kernel
theorem dX6_likelihood_37 : decode cX6_likelihood 37 = .ok (.lmul, 1) := by decide +kernel
theorem dX6_likelihood_38 : decode cX6_likelihood 38 = .ok (.lstore_n 3, 1) := by decide +kernel
theorem dX6_likelihood_39 : decode cX6_likelihood 39 = .ok (.iinc 5 1, 3) := by decide +kernel
theorem dX6_likelihood_42 : decode cX6_likelihood 42 = .ok (.goto (-17), 3) := by decide +kernel
theorem dX6_likelihood_45 : decode cX6_likelihood 45 = .ok (.lload_n 3, 1) := by decide +kernel
theorem dX6_likelihood_46 : decode cX6_likelihood 46 = .ok (.lreturn, 1) := by decide +kernel
set_option maxRecDepth 20000 in
theorem ggX6_inLeastForm_X6_greatestDivisor : GoodIn wsX6_inLeastForm wsX6_greatestDivisor := goodIn_r _ [4] (by decide +kernel) (by decide +kernel)
set_option maxRecDepth 20000 in
theorem gX6_inLeastForm_X6_greatestDivisor : GoodIn wsX6_inLeastForm (va_wsS RX6 146 yX6_greatestDivisor wsX6_greatestDivisor) := goodIn_app (goodIn_of _ (by decide +kernel)) ggX6_inLeastForm_X6_greatestDivisor
theorem dX6_inLeastForm_0 : decode cX6_inLeastForm 0 = .ok (.lload_n 0, 1) := by decide +kernel
theorem dX6_inLeastForm_1 : decode cX6_inLeastForm 1 = .ok (.lload_n 2, 1) := by decide +kernel
theorem dX6_inLeastForm_2 : decode cX6_inLeastForm 2 = .ok (.invokestatic 146, 3) := by decide +kernel
theorem dX6_inLeastForm_5 : decode cX6_inLeastForm 5 = .ok (.lstore 5, 2) := by decide +kernel
theorem dX6_inLeastForm_7 : decode cX6_inLeastForm 7 = .ok (.iload 4, 2) := by decide +kernel
theorem dX6_inLeastForm_9 : decode cX6_inLeastForm 9 = .ok (.ifCond .ne 7, 3) := by decide +kernel
theorem dX6_inLeastForm_12 : decode cX6_inLeastForm 12 = .ok (.lload_n 0, 1) := by decide +kernel
theorem dX6_inLeastForm_13 : decode cX6_inLeastForm 13 = .ok (.goto 4, 3) := by decide +kernel
theorem dX6_inLeastForm_16 : decode cX6_inLeastForm 16 = .ok (.lload_n 2, 1) := by decide +kernel
theorem dX6_inLeastForm_17 : decode cX6_inLeastForm 17 = .ok (.lstore 7, 2) := by decide +kernel
theorem dX6_inLeastForm_19 : decode cX6_inLeastForm 19 = .ok (.lload 5, 2) := by decide +kernel
theorem dX6_inLeastForm_21 : decode cX6_inLeastForm 21 = .ok (.lconst 1, 1) := by decide +kernel
theorem dX6_inLeastForm_22 : decode cX6_inLeastForm 22 = .ok (.lcmp, 1) := by decide +kernel
theorem dX6_inLeastForm_23 : decode cX6_inLeastForm 23 = .ok (.ifCond .le 11, 3) := by decide +kernel
theorem dX6_inLeastForm_26 : decode cX6_inLeastForm 26 = .ok (.lload 7, 2) := by decide +kernel
theorem dX6_inLeastForm_28 : decode cX6_inLeastForm 28 = .ok (.lload 5, 2) := by decide +kernel
theorem dX6_inLeastForm_30 : decode cX6_inLeastForm 30 = .ok (.ldiv, 1) := by decide +kernel
theorem dX6_inLeastForm_31 : decode cX6_inLeastForm 31 = .ok (.goto 5, 3) := by decide +kernel
theorem dX6_inLeastForm_34 : decode cX6_inLeastForm 34 = .ok (.lload 7, 2) := by decide +kernel
theorem dX6_inLeastForm_36 : decode cX6_inLeastForm 36 = .ok (.lreturn, 1) := by decide +kernel
theorem dX6_greatestDivisor_0 : decode cX6_greatestDivisor 0 = .ok (.lload_n 0, 1) := by decide +kernel
theorem dX6_greatestDivisor_1 : decode cX6_greatestDivisor 1 = .ok (.lstore 4, 2) := by decide +kernel
theorem dX6_greatestDivisor_3 : decode cX6_greatestDivisor 3 = .ok (.lload_n 2, 1) := by decide +kernel
theorem dX6_greatestDivisor_4 : decode cX6_greatestDivisor 4 = .ok (.lstore 6, 2) := by decide +kernel
theorem dX6_greatestDivisor_6 : decode cX6_greatestDivisor 6 = .ok (.iconst 0, 1) := by decide +kernel
theorem dX6_greatestDivisor_7 : decode cX6_greatestDivisor 7 = .ok (.istore 8, 2) := by decide +kernel
theorem dX6_greatestDivisor_9 : decode cX6_greatestDivisor 9 = .ok (.iload 8, 2) := by decide +kernel
theorem dX6_greatestDivisor_11 : decode cX6_greatestDivisor 11 = .ok (.sipush 200, 3) := by decide +kernel
theorem dX6_greatestDivisor_14 : decode cX6_greatestDivisor 14 = .ok (.if_icmp .ge 31, 3) := by decide +kernel
theorem dX6_greatestDivisor_17 : decode cX6_greatestDivisor 17 = .ok (.lload 6, 2) := by decide +kernel
theorem dX6_greatestDivisor_19 : decode cX6_greatestDivisor 19 = .ok (.lconst 0, 1) := by decide +kernel
theorem dX6_greatestDivisor_20 : decode cX6_greatestDivisor 20 = .ok (.lcmp, 1) := by decide +kernel
theorem dX6_greatestDivisor_21 : decode cX6_greatestDivisor 21 = .ok (.ifCond .le 24, 3) := by decide +kernel
theorem dX6_greatestDivisor_24 : decode cX6_greatestDivisor 24 = .ok (.lload 4, 2) := by decide +kernel
theorem dX6_greatestDivisor_26 : decode cX6_greatestDivisor 26 = .ok (.lload 6, 2) := by decide +kernel
theorem dX6_greatestDivisor_28 : decode cX6_greatestDivisor 28 = .ok (.lrem, 1) := by decide +kernel
theorem dX6_greatestDivisor_29 : decode cX6_greatestDivisor 29 = .ok (.lstore 9, 2) := by decide +kernel
theorem dX6_greatestDivisor_31 : decode cX6_greatestDivisor 31 = .ok (.lload 6, 2) := by decide +kernel
theorem dX6_greatestDivisor_33 : decode cX6_greatestDivisor 33 = .ok (.lstore 4, 2) := by decide +kernel
theorem dX6_greatestDivisor_35 : decode cX6_greatestDivisor 35 = .ok (.lload 9, 2) := by decide +kernel
theorem dX6_greatestDivisor_37 : decode cX6_greatestDivisor 37 = .ok (.lstore 6, 2) := by decide +kernel
theorem dX6_greatestDivisor_39 : decode cX6_greatestDivisor 39 = .ok (.iinc 8 1, 3) := by decide +kernel
theorem dX6_greatestDivisor_42 : decode cX6_greatestDivisor 42 = .ok (.goto (-33), 3) := by decide +kernel
theorem dX6_greatestDivisor_45 : decode cX6_greatestDivisor 45 = .ok (.lload 4, 2) := by decide +kernel
theorem dX6_greatestDivisor_47 : decode cX6_greatestDivisor 47 = .ok (.lreturn, 1) := by decide +kernel
set_option maxRecDepth 20000 in
theorem ggX7_init_X7_replays : GoodIn wsX7_init wsX7_replays := goodIn_r _ [16, 11, 17, 18, 6, 5, 19, 20, 21, 15, 22, 23, 24, 25, 26, 27, 28, 29, 30, 31, 32, 33, 34, 35, 36, 37, 38, 39, 40, 41] (by decide +kernel) (by decide +kernel)
set_option maxRecDepth 20000 in
theorem gX7_init_X7_replays : GoodIn wsX7_init (wsV RX7 29 RX7 yX7_replays wsX7_replays) := goodIn_app (goodIn_of _ (by decide +kernel)) ggX7_init_X7_replays
theorem dX7_init_0 : decode cX7_init 0 = .ok (.aload_n 0, 1) := by decide +kernel
theorem dX7_init_1 : decode cX7_init 1 = .ok (.invokespecial 1, 3) := by decide +kernel
theorem dX7_init_4 : decode cX7_init 4 = .ok (.aload_n 0, 1) := by decide +kernel
theorem dX7_init_5 : decode cX7_init 5 = .ok (.bipush 7, 2) := by decide +kernel
theorem dX7_init_7 : decode cX7_init 7 = .ok (.newarray .int, 2) := by decide +kernel
theorem dX7_init_9 : decode cX7_init 9 = .ok (.putfield 7, 3) := by decide +kernel
theorem dX7_init_12 : decode cX7_init 12 = .ok (.aload_n 0, 1) := by decide +kernel
theorem dX7_init_13 : decode cX7_init 13 = .ok (.sipush 400, 3) := by decide +kernel
theorem dX7_init_16 : decode cX7_init 16 = .ok (.newarray .int, 2) := by decide +kernel
theorem dX7_init_18 : decode cX7_init 18 = .ok (.putfield 13, 3) := by decide +kernel
theorem dX7_init_21 : decode cX7_init 21 = .ok (.aload_n 0, 1) := by decide +kernel
theorem dX7_init_22 : decode cX7_init 22 = .ok (.bipush 49, 2) := by decide +kernel
theorem dX7_init_24 : decode cX7_init 24 = .ok (.newarray .long, 2) := by decide +kernel
theorem dX7_init_26 : decode cX7_init 26 = .ok (.putfield 16, 3) := by decide +kernel
theorem dX7_init_29 : decode cX7_init 29 = .ok (.aload_n 0, 1) := by decide +kernel
theorem dX7_init_30 : decode cX7_init 30 = .ok (.bipush 49, 2) := by decide +kernel
theorem dX7_init_32 : decode cX7_init 32 = .ok (.newarray .long, 2) := by decide +kernel
theorem dX7_init_34 : decode cX7_init 34 = .ok (.putfield 20, 3) := by decide +kernel
theorem dX7_init_37 : decode cX7_init 37 = .ok (.aload_n 0, 1) := by decide +kernel
theorem dX7_init_38 : decode cX7_init 38 = .ok (.sipush 128, 3) := by decide +kernel
theorem dX7_init_41 : decode cX7_init 41 = .ok (.newarray .long, 2) := by decide +kernel
theorem dX7_init_43 : decode cX7_init 43 = .ok (.putfield 23, 3) := by decide +kernel
theorem dX7_init_46 : decode cX7_init 46 = .ok (.aload_n 0, 1) := by decide +kernel
theorem dX7_init_47 : decode cX7_init 47 = .ok (.bipush 13, 2) := by decide +kernel
theorem dX7_init_49 : decode cX7_init 49 = .ok (.newarray .int, 2) := by decide +kernel
theorem dX7_init_51 : decode cX7_init 51 = .ok (.putfield 26, 3) := by decide +kernel
theorem dX7_init_54 : decode cX7_init 54 = .ok (.aload_n 0, 1) := by decide +kernel
theorem dX7_init_55 : decode cX7_init 55 = .ok (.getfield 7, 3) := by decide +kernel
theorem dX7_init_58 : decode cX7_init 58 = .ok (.iconst 0, 1) := by decide +kernel
theorem dX7_init_59 : decode cX7_init 59 = .ok (.bipush 6, 2) := by decide +kernel
theorem dX7_init_61 : decode cX7_init 61 = .ok (.iastore, 1) := by decide +kernel
theorem dX7_init_62 : decode cX7_init 62 = .ok (.aload_n 0, 1) := by decide +kernel
theorem dX7_init_63 : decode cX7_init 63 = .ok (.getfield 7, 3) := by decide +kernel
theorem dX7_init_66 : decode cX7_init 66 = .ok (.iconst 1, 1) := by decide +kernel
theorem dX7_init_67 : decode cX7_init 67 = .ok (.iconst 4, 1) := by decide +kernel
theorem dX7_init_68 : decode cX7_init 68 = .ok (.iastore, 1) := by decide +kernel
theorem dX7_init_69 : decode cX7_init 69 = .ok (.aload_n 0, 1) := by decide +kernel
theorem dX7_init_70 : decode cX7_init 70 = .ok (.getfield 7, 3) := by decide +kernel
theorem dX7_init_73 : decode cX7_init 73 = .ok (.iconst 2, 1) := by decide +kernel
theorem dX7_init_74 : decode cX7_init 74 = .ok (.iconst 4, 1) := by decide +kernel
theorem dX7_init_75 : decode cX7_init 75 = .ok (.iastore, 1) := by decide +kernel
theorem dX7_init_76 : decode cX7_init 76 = .ok (.aload_n 0, 1) := by decide +kernel
theorem dX7_init_77 : decode cX7_init 77 = .ok (.getfield 7, 3) := by decide +kernel
theorem dX7_init_80 : decode cX7_init 80 = .ok (.iconst 3, 1) := by decide +kernel
theorem dX7_init_81 : decode cX7_init 81 = .ok (.bipush 6, 2) := by decide +kernel
theorem dX7_init_83 : decode cX7_init 83 = .ok (.iastore, 1) := by decide +kernel
theorem dX7_init_84 : decode cX7_init 84 = .ok (.aload_n 0, 1) := by decide +kernel
theorem dX7_init_85 : decode cX7_init 85 = .ok (.getfield 7, 3) := by decide +kernel
theorem dX7_init_88 : decode cX7_init 88 = .ok (.iconst 4, 1) := by decide +kernel
theorem dX7_init_89 : decode cX7_init 89 = .ok (.iconst 2, 1) := by decide +kernel
theorem dX7_init_90 : decode cX7_init 90 = .ok (.iastore, 1) := by decide +kernel
theorem dX7_init_91 : decode cX7_init 91 = .ok (.aload_n 0, 1) := by decide +kernel
theorem dX7_init_92 : decode cX7_init 92 = .ok (.invokevirtual 29, 3) := by decide +kernel
theorem dX7_init_95 : decode cX7_init 95 = .ok (.return_, 1) := by decide +kernel
theorem dX7_in_0 : decode cX7_in 0 = .ok (.iload_n 0, 1) := by decide +kernel
theorem dX7_in_1 : decode cX7_in 1 = .ok (.iload_n 1, 1) := by decide +kernel
theorem dX7_in_2 : decode cX7_in 2 = .ok (.if_icmp .lt 12, 3) := by decide +kernel
theorem dX7_in_5 : decode cX7_in 5 = .ok (.iload_n 0, 1) := by decide +kernel
theorem dX7_in_6 : decode cX7_in 6 = .ok (.iload_n 2, 1) := by decide +kernel
theorem dX7_in_7 : decode cX7_in 7 = .ok (.if_icmp .gt 7, 3) := by decide +kernel
theorem dX7_in_10 : decode cX7_in 10 = .ok (.iconst 1, 1) := by decide +kernel
theorem dX7_in_11 : decode cX7_in 11 = .ok (.goto 4, 3) := by decide +kernel
theorem dX7_in_14 : decode cX7_in 14 = .ok (.iconst 0, 1) := by decide +kernel
theorem dX7_in_15 : decode cX7_in 15 = .ok (.ireturn, 1) := by decide +kernel
theorem dX7_most_0 : decode cX7_most 0 = .ok (.iload_n 1, 1) := by decide +kernel
theorem dX7_most_1 : decode cX7_most 1 = .ok (.tableswitch 72 0 5 #[39, 39, 42, 44, 47, 49], 39) := by decide +kernel
theorem dX7_most_40 : decode cX7_most 40 = .ok (.bipush 9, 2) := by decide +kernel
theorem dX7_most_42 : decode cX7_most 42 = .ok (.ireturn, 1) := by decide +kernel
theorem dX7_most_43 : decode cX7_most 43 = .ok (.iconst 5, 1) := by decide +kernel
theorem dX7_most_44 : decode cX7_most 44 = .ok (.ireturn, 1) := by decide +kernel
theorem dX7_most_45 : decode cX7_most 45 = .ok (.bipush 6, 2) := by decide +kernel
theorem dX7_most_47 : decode cX7_most 47 = .ok (.ireturn, 1) := by decide +kernel
theorem dX7_most_48 : decode cX7_most 48 = .ok (.iconst 3, 1) := by decide +kernel
theorem dX7_most_49 : decode cX7_most 49 = .ok (.ireturn, 1) := by decide +kernel
theorem dX7_most_50 : decode cX7_most 50 = .ok (.aload_n 0, 1) := by decide +kernel
theorem dX7_most_51 : decode cX7_most 51 = .ok (.getfield 7, 3) := by decide +kernel
theorem dX7_most_54 : decode cX7_most 54 = .ok (.iconst 2, 1) := by decide +kernel
theorem dX7_most_55 : decode cX7_most 55 = .ok (.iaload, 1) := by decide +kernel
theorem dX7_most_56 : decode cX7_most 56 = .ok (.iconst 2, 1) := by decide +kernel
theorem dX7_most_57 : decode cX7_most 57 = .ok (.if_icmp .ge 7, 3) := by decide +kernel
theorem dX7_most_60 : decode cX7_most 60 = .ok (.iconst 0, 1) := by decide +kernel
theorem dX7_most_61 : decode cX7_most 61 = .ok (.goto 11, 3) := by decide +kernel
theorem dX7_most_64 : decode cX7_most 64 = .ok (.aload_n 0, 1) := by decide +kernel
theorem dX7_most_65 : decode cX7_most 65 = .ok (.getfield 7, 3) := by decide +kernel
theorem dX7_most_68 : decode cX7_most 68 = .ok (.iconst 2, 1) := by decide +kernel
theorem dX7_most_69 : decode cX7_most 69 = .ok (.iaload, 1) := by decide +kernel
theorem dX7_most_70 : decode cX7_most 70 = .ok (.iconst 2, 1) := by decide +kernel
theorem dX7_most_71 : decode cX7_most 71 = .ok (.isub, 1) := by decide +kernel
theorem dX7_most_72 : decode cX7_most 72 = .ok (.ireturn, 1) := by decide +kernel
theorem dX7_most_73 : decode cX7_most 73 = .ok (.iconst 2, 1) := by decide +kernel
theorem dX7_most_74 : decode cX7_most 74 = .ok (.ireturn, 1) := by decide +kernel
set_option maxRecDepth 20000 in
theorem ggX7_set_X7_in : GoodIn wsX7_set wsX7_in := goodIn_r _ [7] (by decide +kernel) (by decide +kernel)
set_option maxRecDepth 20000 in
theorem gX7_set_X7_in : GoodIn wsX7_set (va_wsS RX7 36 yX7_in wsX7_in) := goodIn_app (goodIn_of _ (by decide +kernel)) ggX7_set_X7_in
set_option maxRecDepth 20000 in
theorem ggX7_set_X7_most : GoodIn wsX7_set wsX7_most := goodIn_r _ [11, 3, 31, 32, 33, 34, 35, 36, 37, 38, 39, 40, 41] (by decide +kernel) (by decide +kernel)
set_option maxRecDepth 20000 in
theorem gX7_set_X7_most : GoodIn wsX7_set (wsV RX7 40 RX7 yX7_most wsX7_most) := goodIn_app (goodIn_of _ (by decide +kernel)) ggX7_set_X7_most
set_option maxRecDepth 20000 in
theorem ggX7_set_X7_replays : GoodIn wsX7_set wsX7_replays := goodIn_r _ [15, 16, 17, 2, 18, 3, 19, 20, 21, 6, 22, 23, 24, 25, 26, 27, 28, 29, 30, 31, 32, 33, 34, 35, 36, 37, 38, 39, 40, 41] (by decide +kernel) (by decide +kernel)
set_option maxRecDepth 20000 in
theorem gX7_set_X7_replays : GoodIn wsX7_set (wsV RX7 29 RX7 yX7_replays wsX7_replays) := goodIn_app (goodIn_of _ (by decide +kernel)) ggX7_set_X7_replays
theorem dX7_set_0 : decode cX7_set 0 = .ok (.aload_n 0, 1) := by decide +kernel
theorem dX7_set_1 : decode cX7_set 1 = .ok (.iconst 0, 1) := by decide +kernel
theorem dX7_set_2 : decode cX7_set 2 = .ok (.putfield 32, 3) := by decide +kernel
theorem dX7_set_5 : decode cX7_set 5 = .ok (.iload_n 1, 1) := by decide +kernel
theorem dX7_set_6 : decode cX7_set 6 = .ok (.iconst 0, 1) := by decide +kernel
theorem dX7_set_7 : decode cX7_set 7 = .ok (.bipush 6, 2) := by decide +kernel
theorem dX7_set_9 : decode cX7_set 9 = .ok (.invokestatic 36, 3) := by decide +kernel
theorem dX7_set_12 : decode cX7_set 12 = .ok (.ifCond .eq 25, 3) := by decide +kernel
theorem dX7_set_15 : decode cX7_set 15 = .ok (.iload_n 2, 1) := by decide +kernel
theorem dX7_set_16 : decode cX7_set 16 = .ok (.iload_n 1, 1) := by decide +kernel
theorem dX7_set_17 : decode cX7_set 17 = .ok (.iconst 5, 1) := by decide +kernel
theorem dX7_set_18 : decode cX7_set 18 = .ok (.if_icmp .ge 7, 3) := by decide +kernel
theorem dX7_set_21 : decode cX7_set 21 = .ok (.iconst 1, 1) := by decide +kernel
theorem dX7_set_22 : decode cX7_set 22 = .ok (.goto 4, 3) := by decide +kernel
theorem dX7_set_25 : decode cX7_set 25 = .ok (.iconst 0, 1) := by decide +kernel
theorem dX7_set_26 : decode cX7_set 26 = .ok (.aload_n 0, 1) := by decide +kernel
theorem dX7_set_27 : decode cX7_set 27 = .ok (.iload_n 1, 1) := by decide +kernel
theorem dX7_set_28 : decode cX7_set 28 = .ok (.invokevirtual 40, 3) := by decide +kernel
theorem dX7_set_31 : decode cX7_set 31 = .ok (.invokestatic 36, 3) := by decide +kernel
theorem dX7_set_34 : decode cX7_set 34 = .ok (.ifCond .ne 5, 3) := by decide +kernel
theorem dX7_set_37 : decode cX7_set 37 = .ok (.iconst (-1), 1) := by decide +kernel
theorem dX7_set_38 : decode cX7_set 38 = .ok (.ireturn, 1) := by decide +kernel
theorem dX7_set_39 : decode cX7_set 39 = .ok (.iload_n 1, 1) := by decide +kernel
theorem dX7_set_40 : decode cX7_set 40 = .ok (.iconst 1, 1) := by decide +kernel
theorem dX7_set_41 : decode cX7_set 41 = .ok (.if_icmp .le 13, 3) := by decide +kernel
theorem dX7_set_44 : decode cX7_set 44 = .ok (.aload_n 0, 1) := by decide +kernel
theorem dX7_set_45 : decode cX7_set 45 = .ok (.getfield 44, 3) := by decide +kernel
theorem dX7_set_48 : decode cX7_set 48 = .ok (.ifCond .le 6, 3) := by decide +kernel
theorem dX7_set_51 : decode cX7_set 51 = .ok (.bipush (-2), 2) := by decide +kernel
theorem dX7_set_53 : decode cX7_set 53 = .ok (.ireturn, 1) := by decide +kernel
theorem dX7_set_54 : decode cX7_set 54 = .ok (.aload_n 0, 1) := by decide +kernel
theorem dX7_set_55 : decode cX7_set 55 = .ok (.getfield 7, 3) := by decide +kernel
theorem dX7_set_58 : decode cX7_set 58 = .ok (.iload_n 1, 1) := by decide +kernel
theorem dX7_set_59 : decode cX7_set 59 = .ok (.iaload, 1) := by decide +kernel
theorem dX7_set_60 : decode cX7_set 60 = .ok (.istore_n 3, 1) := by decide +kernel
theorem dX7_set_61 : decode cX7_set 61 = .ok (.aload_n 0, 1) := by decide +kernel
theorem dX7_set_62 : decode cX7_set 62 = .ok (.getfield 7, 3) := by decide +kernel
theorem dX7_set_65 : decode cX7_set 65 = .ok (.iload_n 1, 1) := by decide +kernel
theorem dX7_set_66 : decode cX7_set 66 = .ok (.iload_n 2, 1) := by decide +kernel
theorem dX7_set_67 : decode cX7_set 67 = .ok (.iastore, 1) := by decide +kernel
theorem dX7_set_68 : decode cX7_set 68 = .ok (.aload_n 0, 1) := by decide +kernel
theorem dX7_set_69 : decode cX7_set 69 = .ok (.getfield 7, 3) := by decide +kernel
theorem dX7_set_72 : decode cX7_set 72 = .ok (.iconst 5, 1) := by decide +kernel
theorem dX7_set_73 : decode cX7_set 73 = .ok (.iload_n 1, 1) := by decide +kernel
theorem dX7_set_74 : decode cX7_set 74 = .ok (.iconst 2, 1) := by decide +kernel
theorem dX7_set_75 : decode cX7_set 75 = .ok (.if_icmp .ne 7, 3) := by decide +kernel
theorem dX7_set_78 : decode cX7_set 78 = .ok (.iconst 0, 1) := by decide +kernel
theorem dX7_set_79 : decode cX7_set 79 = .ok (.goto 9, 3) := by decide +kernel
theorem dX7_set_82 : decode cX7_set 82 = .ok (.aload_n 0, 1) := by decide +kernel
theorem dX7_set_83 : decode cX7_set 83 = .ok (.getfield 7, 3) := by decide +kernel
theorem dX7_set_86 : decode cX7_set 86 = .ok (.iconst 5, 1) := by decide +kernel
theorem dX7_set_87 : decode cX7_set 87 = .ok (.iaload, 1) := by decide +kernel
theorem dX7_set_88 : decode cX7_set 88 = .ok (.iastore, 1) := by decide +kernel
theorem dX7_set_89 : decode cX7_set 89 = .ok (.aload_n 0, 1) := by decide +kernel
theorem dX7_set_90 : decode cX7_set 90 = .ok (.invokevirtual 29, 3) := by decide +kernel
theorem dX7_set_93 : decode cX7_set 93 = .ok (.iload_n 3, 1) := by decide +kernel
theorem dX7_set_94 : decode cX7_set 94 = .ok (.ireturn, 1) := by decide +kernel
theorem dX7_wonOf_0 : decode cX7_wonOf 0 = .ok (.aload_n 0, 1) := by decide +kernel
theorem dX7_wonOf_1 : decode cX7_wonOf 1 = .ok (.getfield 7, 3) := by decide +kernel
theorem dX7_wonOf_4 : decode cX7_wonOf 4 = .ok (.iconst 2, 1) := by decide +kernel
theorem dX7_wonOf_5 : decode cX7_wonOf 5 = .ok (.iaload, 1) := by decide +kernel
theorem dX7_wonOf_6 : decode cX7_wonOf 6 = .ok (.istore 4, 2) := by decide +kernel
theorem dX7_wonOf_8 : decode cX7_wonOf 8 = .ok (.iload_n 2, 1) := by decide +kernel
theorem dX7_wonOf_9 : decode cX7_wonOf 9 = .ok (.iload 4, 2) := by decide +kernel
theorem dX7_wonOf_11 : decode cX7_wonOf 11 = .ok (.if_icmp .lt 12, 3) := by decide +kernel
theorem dX7_wonOf_14 : decode cX7_wonOf 14 = .ok (.iload_n 2, 1) := by decide +kernel
theorem dX7_wonOf_15 : decode cX7_wonOf 15 = .ok (.iload_n 3, 1) := by decide +kernel
theorem dX7_wonOf_16 : decode cX7_wonOf 16 = .ok (.isub, 1) := by decide +kernel
theorem dX7_wonOf_17 : decode cX7_wonOf 17 = .ok (.iconst 2, 1) := by decide +kernel
theorem dX7_wonOf_18 : decode cX7_wonOf 18 = .ok (.if_icmp .lt 5, 3) := by decide +kernel
theorem dX7_wonOf_21 : decode cX7_wonOf 21 = .ok (.iconst 1, 1) := by decide +kernel
theorem dX7_wonOf_22 : decode cX7_wonOf 22 = .ok (.ireturn, 1) := by decide +kernel
theorem dX7_wonOf_23 : decode cX7_wonOf 23 = .ok (.iload_n 3, 1) := by decide +kernel
theorem dX7_wonOf_24 : decode cX7_wonOf 24 = .ok (.iload 4, 2) := by decide +kernel
theorem dX7_wonOf_26 : decode cX7_wonOf 26 = .ok (.if_icmp .lt 12, 3) := by decide +kernel
theorem dX7_wonOf_29 : decode cX7_wonOf 29 = .ok (.iload_n 3, 1) := by decide +kernel
theorem dX7_wonOf_30 : decode cX7_wonOf 30 = .ok (.iload_n 2, 1) := by decide +kernel
theorem dX7_wonOf_31 : decode cX7_wonOf 31 = .ok (.isub, 1) := by decide +kernel
theorem dX7_wonOf_32 : decode cX7_wonOf 32 = .ok (.iconst 2, 1) := by decide +kernel
theorem dX7_wonOf_33 : decode cX7_wonOf 33 = .ok (.if_icmp .lt 5, 3) := by decide +kernel
theorem dX7_wonOf_36 : decode cX7_wonOf 36 = .ok (.iconst 2, 1) := by decide +kernel
theorem dX7_wonOf_37 : decode cX7_wonOf 37 = .ok (.ireturn, 1) := by decide +kernel
theorem dX7_wonOf_38 : decode cX7_wonOf 38 = .ok (.iload_n 1, 1) := by decide +kernel
theorem dX7_wonOf_39 : decode cX7_wonOf 39 = .ok (.ifCond .le 16, 3) := by decide +kernel
theorem dX7_wonOf_42 : decode cX7_wonOf 42 = .ok (.iload_n 2, 1) := by decide +kernel
theorem dX7_wonOf_43 : decode cX7_wonOf 43 = .ok (.iload 4, 2) := by decide +kernel
theorem dX7_wonOf_45 : decode cX7_wonOf 45 = .ok (.if_icmp .lt 10, 3) := by decide +kernel
theorem dX7_wonOf_48 : decode cX7_wonOf 48 = .ok (.iload_n 2, 1) := by decide +kernel
theorem dX7_wonOf_49 : decode cX7_wonOf 49 = .ok (.iload_n 3, 1) := by decide +kernel
theorem dX7_wonOf_50 : decode cX7_wonOf 50 = .ok (.if_icmp .le 5, 3) := by decide +kernel
theorem dX7_wonOf_53 : decode cX7_wonOf 53 = .ok (.iconst 1, 1) := by decide +kernel
theorem dX7_wonOf_54 : decode cX7_wonOf 54 = .ok (.ireturn, 1) := by decide +kernel
theorem dX7_wonOf_55 : decode cX7_wonOf 55 = .ok (.iload_n 1, 1) := by decide +kernel
theorem dX7_wonOf_56 : decode cX7_wonOf 56 = .ok (.ifCond .le 16, 3) := by decide +kernel
theorem dX7_wonOf_59 : decode cX7_wonOf 59 = .ok (.iload_n 3, 1) := by decide +kernel
theorem dX7_wonOf_60 : decode cX7_wonOf 60 = .ok (.iload 4, 2) := by decide +kernel
theorem dX7_wonOf_62 : decode cX7_wonOf 62 = .ok (.if_icmp .lt 10, 3) := by decide +kernel
theorem dX7_wonOf_65 : decode cX7_wonOf 65 = .ok (.iload_n 3, 1) := by decide +kernel
theorem dX7_wonOf_66 : decode cX7_wonOf 66 = .ok (.iload_n 2, 1) := by decide +kernel
theorem dX7_wonOf_67 : decode cX7_wonOf 67 = .ok (.if_icmp .le 5, 3) := by decide +kernel
theorem dX7_wonOf_70 : decode cX7_wonOf 70 = .ok (.iconst 2, 1) := by decide +kernel
theorem dX7_wonOf_71 : decode cX7_wonOf 71 = .ok (.ireturn, 1) := by decide +kernel
theorem dX7_wonOf_72 : decode cX7_wonOf 72 = .ok (.iload_n 1, 1) := by decide +kernel
theorem dX7_wonOf_73 : decode cX7_wonOf 73 = .ok (.iconst 1, 1) := by decide +kernel
theorem dX7_wonOf_74 : decode cX7_wonOf 74 = .ok (.if_icmp .le 43, 3) := by decide +kernel
theorem dX7_wonOf_77 : decode cX7_wonOf 77 = .ok (.iload 4, 2) := by decide +kernel
theorem dX7_wonOf_79 : decode cX7_wonOf 79 = .ok (.iconst 3, 1) := by decide +kernel
theorem dX7_wonOf_80 : decode cX7_wonOf 80 = .ok (.if_icmp .lt 37, 3) := by decide +kernel
theorem dX7_wonOf_83 : decode cX7_wonOf 83 = .ok (.iload_n 2, 1) := by decide +kernel
theorem dX7_wonOf_84 : decode cX7_wonOf 84 = .ok (.iload 4, 2) := by decide +kernel
theorem dX7_wonOf_86 : decode cX7_wonOf 86 = .ok (.iconst 1, 1) := by decide +kernel
theorem dX7_wonOf_87 : decode cX7_wonOf 87 = .ok (.isub, 1) := by decide +kernel
theorem dX7_wonOf_88 : decode cX7_wonOf 88 = .ok (.if_icmp .lt 11, 3) := by decide +kernel
theorem dX7_wonOf_91 : decode cX7_wonOf 91 = .ok (.iload_n 3, 1) := by decide +kernel
theorem dX7_wonOf_92 : decode cX7_wonOf 92 = .ok (.ifCond .ne 7, 3) := by decide +kernel
theorem dX7_wonOf_95 : decode cX7_wonOf 95 = .ok (.iconst 1, 1) := by decide +kernel
theorem dX7_wonOf_96 : decode cX7_wonOf 96 = .ok (.goto 20, 3) := by decide +kernel
theorem dX7_wonOf_99 : decode cX7_wonOf 99 = .ok (.iload_n 3, 1) := by decide +kernel
theorem dX7_wonOf_100 : decode cX7_wonOf 100 = .ok (.iload 4, 2) := by decide +kernel
theorem dX7_wonOf_102 : decode cX7_wonOf 102 = .ok (.iconst 1, 1) := by decide +kernel
theorem dX7_wonOf_103 : decode cX7_wonOf 103 = .ok (.isub, 1) := by decide +kernel
theorem dX7_wonOf_104 : decode cX7_wonOf 104 = .ok (.if_icmp .lt 11, 3) := by decide +kernel
theorem dX7_wonOf_107 : decode cX7_wonOf 107 = .ok (.iload_n 2, 1) := by decide +kernel
theorem dX7_wonOf_108 : decode cX7_wonOf 108 = .ok (.ifCond .ne 7, 3) := by decide +kernel
theorem dX7_wonOf_111 : decode cX7_wonOf 111 = .ok (.iconst 2, 1) := by decide +kernel
theorem dX7_wonOf_112 : decode cX7_wonOf 112 = .ok (.goto 4, 3) := by decide +kernel
theorem dX7_wonOf_115 : decode cX7_wonOf 115 = .ok (.iconst 0, 1) := by decide +kernel
theorem dX7_wonOf_116 : decode cX7_wonOf 116 = .ok (.ireturn, 1) := by decide +kernel
theorem dX7_wonOf_117 : decode cX7_wonOf 117 = .ok (.iconst 0, 1) := by decide +kernel
theorem dX7_wonOf_118 : decode cX7_wonOf 118 = .ok (.ireturn, 1) := by decide +kernel
set_option maxRecDepth 20000 in
theorem ggX7_won_X7_in : GoodIn wsX7_won wsX7_in := goodIn_r _ [8] (by decide +kernel) (by decide +kernel)
set_option maxRecDepth 20000 in
theorem gX7_won_X7_in : GoodIn wsX7_won (va_wsS RX7 36 yX7_in wsX7_in) := goodIn_app (goodIn_of _ (by decide +kernel)) ggX7_won_X7_in
set_option maxRecDepth 20000 in
theorem ggX7_won_X7_wonOf : GoodIn wsX7_won wsX7_wonOf := goodIn_r _ [12, 13, 14, 15, 16, 17, 18, 19, 20, 21, 22, 23, 24] (by decide +kernel) (by decide +kernel)
set_option maxRecDepth 20000 in
theorem gX7_won_X7_wonOf : GoodIn wsX7_won (wsV RX7 55 RX7 yX7_wonOf wsX7_wonOf) := goodIn_app (goodIn_of _ (by decide +kernel)) ggX7_won_X7_wonOf
theorem dX7_won_0 : decode cX7_won 0 = .ok (.aload_n 0, 1) := by decide +kernel
theorem dX7_won_1 : decode cX7_won 1 = .ok (.iconst 0, 1) := by decide +kernel
theorem dX7_won_2 : decode cX7_won 2 = .ok (.putfield 32, 3) := by decide +kernel
theorem dX7_won_5 : decode cX7_won 5 = .ok (.iload_n 1, 1) := by decide +kernel
theorem dX7_won_6 : decode cX7_won 6 = .ok (.iconst 0, 1) := by decide +kernel
theorem dX7_won_7 : decode cX7_won 7 = .ok (.iconst 2, 1) := by decide +kernel
theorem dX7_won_8 : decode cX7_won 8 = .ok (.invokestatic 36, 3) := by decide +kernel
theorem dX7_won_11 : decode cX7_won 11 = .ok (.ifCond .eq 23, 3) := by decide +kernel
theorem dX7_won_14 : decode cX7_won 14 = .ok (.iload_n 2, 1) := by decide +kernel
theorem dX7_won_15 : decode cX7_won 15 = .ok (.iconst 0, 1) := by decide +kernel
theorem dX7_won_16 : decode cX7_won 16 = .ok (.bipush 20, 2) := by decide +kernel
theorem dX7_won_18 : decode cX7_won 18 = .ok (.invokestatic 36, 3) := by decide +kernel
theorem dX7_won_21 : decode cX7_won 21 = .ok (.ifCond .eq 13, 3) := by decide +kernel
theorem dX7_won_24 : decode cX7_won 24 = .ok (.iload_n 3, 1) := by decide +kernel
theorem dX7_won_25 : decode cX7_won 25 = .ok (.iconst 0, 1) := by decide +kernel
theorem dX7_won_26 : decode cX7_won 26 = .ok (.bipush 20, 2) := by decide +kernel
theorem dX7_won_28 : decode cX7_won 28 = .ok (.invokestatic 36, 3) := by decide +kernel
theorem dX7_won_31 : decode cX7_won 31 = .ok (.ifCond .ne 5, 3) := by decide +kernel
theorem dX7_won_34 : decode cX7_won 34 = .ok (.iconst (-1), 1) := by decide +kernel
theorem dX7_won_35 : decode cX7_won 35 = .ok (.ireturn, 1) := by decide +kernel
theorem dX7_won_36 : decode cX7_won 36 = .ok (.aload_n 0, 1) := by decide +kernel
theorem dX7_won_37 : decode cX7_won 37 = .ok (.dup, 1) := by decide +kernel
theorem dX7_won_38 : decode cX7_won 38 = .ok (.getfield 47, 3) := by decide +kernel
theorem dX7_won_41 : decode cX7_won 41 = .ok (.iload_n 1, 1) := by decide +kernel
theorem dX7_won_42 : decode cX7_won 42 = .ok (.ifCond .ne 7, 3) := by decide +kernel
theorem dX7_won_45 : decode cX7_won 45 = .ok (.lconst 1, 1) := by decide +kernel
theorem dX7_won_46 : decode cX7_won 46 = .ok (.goto 17, 3) := by decide +kernel
theorem dX7_won_49 : decode cX7_won 49 = .ok (.iload_n 1, 1) := by decide +kernel
theorem dX7_won_50 : decode cX7_won 50 = .ok (.iconst 1, 1) := by decide +kernel
theorem dX7_won_51 : decode cX7_won 51 = .ok (.if_icmp .ne 9, 3) := by decide +kernel
theorem dX7_won_54 : decode cX7_won 54 = .ok (.ldc2_w 51, 3) := by decide +kernel
theorem dX7_won_57 : decode cX7_won 57 = .ok (.goto 6, 3) := by decide +kernel
theorem dX7_won_60 : decode cX7_won 60 = .ok (.ldc2_w 53, 3) := by decide +kernel
theorem dX7_won_63 : decode cX7_won 63 = .ok (.ladd, 1) := by decide +kernel
theorem dX7_won_64 : decode cX7_won 64 = .ok (.putfield 47, 3) := by decide +kernel
theorem dX7_won_67 : decode cX7_won 67 = .ok (.aload_n 0, 1) := by decide +kernel
theorem dX7_won_68 : decode cX7_won 68 = .ok (.iload_n 1, 1) := by decide +kernel
theorem dX7_won_69 : decode cX7_won 69 = .ok (.iload_n 2, 1) := by decide +kernel
theorem dX7_won_70 : decode cX7_won 70 = .ok (.iload_n 3, 1) := by decide +kernel
theorem dX7_won_71 : decode cX7_won 71 = .ok (.invokevirtual 55, 3) := by decide +kernel
theorem dX7_won_74 : decode cX7_won 74 = .ok (.ireturn, 1) := by decide +kernel
set_option maxRecDepth 20000 in
theorem ggX7_works_X7_in : GoodIn wsX7_works wsX7_in := goodIn_r _ [13] (by decide +kernel) (by decide +kernel)
set_option maxRecDepth 20000 in
theorem gX7_works_X7_in : GoodIn wsX7_works (va_wsS RX7 36 yX7_in wsX7_in) := goodIn_app (goodIn_of _ (by decide +kernel)) ggX7_works_X7_in
set_option maxRecDepth 20000 in
theorem ggX7_works_X7_wonOf : GoodIn wsX7_works wsX7_wonOf := goodIn_r _ [17, 1, 18, 19, 20, 21, 22, 23, 24, 25, 26, 27, 28] (by decide +kernel) (by decide +kernel)
set_option maxRecDepth 20000 in
theorem gX7_works_X7_wonOf : GoodIn wsX7_works (wsV RX7 55 RX7 yX7_wonOf wsX7_wonOf) := goodIn_app (goodIn_of _ (by decide +kernel)) ggX7_works_X7_wonOf
theorem dX7_works_0 : decode cX7_works 0 = .ok (.aload_n 0, 1) := by decide +kernel
theorem dX7_works_1 : decode cX7_works 1 = .ok (.getfield 7, 3) := by decide +kernel
theorem dX7_works_4 : decode cX7_works 4 = .ok (.iconst 2, 1) := by decide +kernel
theorem dX7_works_5 : decode cX7_works 5 = .ok (.iaload, 1) := by decide +kernel
theorem dX7_works_6 : decode cX7_works 6 = .ok (.istore_n 2, 1) := by decide +kernel
theorem dX7_works_7 : decode cX7_works 7 = .ok (.aload_n 0, 1) := by decide +kernel
theorem dX7_works_8 : decode cX7_works 8 = .ok (.getfield 7, 3) := by decide +kernel
theorem dX7_works_11 : decode cX7_works 11 = .ok (.iload_n 1, 1) := by decide +kernel
theorem dX7_works_12 : decode cX7_works 12 = .ok (.iaload, 1) := by decide +kernel
theorem dX7_works_13 : decode cX7_works 13 = .ok (.istore_n 3, 1) := by decide +kernel
theorem dX7_works_14 : decode cX7_works 14 = .ok (.bipush 10, 2) := by decide +kernel
theorem dX7_works_16 : decode cX7_works 16 = .ok (.iload_n 3, 1) := by decide +kernel
theorem dX7_works_17 : decode cX7_works 17 = .ok (.isub, 1) := by decide +kernel
theorem dX7_works_18 : decode cX7_works 18 = .ok (.istore 4, 2) := by decide +kernel
theorem dX7_works_20 : decode cX7_works 20 = .ok (.iload_n 3, 1) := by decide +kernel
theorem dX7_works_21 : decode cX7_works 21 = .ok (.iload_n 3, 1) := by decide +kernel
theorem dX7_works_22 : decode cX7_works 22 = .ok (.imul, 1) := by decide +kernel
theorem dX7_works_23 : decode cX7_works 23 = .ok (.iload 4, 2) := by decide +kernel
theorem dX7_works_25 : decode cX7_works 25 = .ok (.iload 4, 2) := by decide +kernel
theorem dX7_works_27 : decode cX7_works 27 = .ok (.imul, 1) := by decide +kernel
theorem dX7_works_28 : decode cX7_works 28 = .ok (.iadd, 1) := by decide +kernel
theorem dX7_works_29 : decode cX7_works 29 = .ok (.i2l, 1) := by decide +kernel
theorem dX7_works_30 : decode cX7_works 30 = .ok (.lstore 5, 2) := by decide +kernel
theorem dX7_works_32 : decode cX7_works 32 = .ok (.aload_n 0, 1) := by decide +kernel
theorem dX7_works_33 : decode cX7_works 33 = .ok (.ldc2_w 59, 3) := by decide +kernel
theorem dX7_works_36 : decode cX7_works 36 = .ok (.lload 5, 2) := by decide +kernel
theorem dX7_works_38 : decode cX7_works 38 = .ok (.lmul, 1) := by decide +kernel
theorem dX7_works_39 : decode cX7_works 39 = .ok (.putfield 61, 3) := by decide +kernel
theorem dX7_works_42 : decode cX7_works 42 = .ok (.iconst 2, 1) := by decide +kernel
theorem dX7_works_43 : decode cX7_works 43 = .ok (.iload_n 2, 1) := by decide +kernel
theorem dX7_works_44 : decode cX7_works 44 = .ok (.imul, 1) := by decide +kernel
theorem dX7_works_45 : decode cX7_works 45 = .ok (.iconst 2, 1) := by decide +kernel
theorem dX7_works_46 : decode cX7_works 46 = .ok (.iadd, 1) := by decide +kernel
theorem dX7_works_47 : decode cX7_works 47 = .ok (.istore 7, 2) := by decide +kernel
theorem dX7_works_49 : decode cX7_works 49 = .ok (.iload 7, 2) := by decide +kernel
theorem dX7_works_51 : decode cX7_works 51 = .ok (.ifCond .lt 342, 3) := by decide +kernel
theorem dX7_works_54 : decode cX7_works 54 = .ok (.iconst 0, 1) := by decide +kernel
theorem dX7_works_55 : decode cX7_works 55 = .ok (.istore 8, 2) := by decide +kernel
theorem dX7_works_57 : decode cX7_works 57 = .ok (.iload 8, 2) := by decide +kernel
theorem dX7_works_59 : decode cX7_works 59 = .ok (.iload_n 2, 1) := by decide +kernel
theorem dX7_works_60 : decode cX7_works 60 = .ok (.iconst 1, 1) := by decide +kernel
theorem dX7_works_61 : decode cX7_works 61 = .ok (.iadd, 1) := by decide +kernel
theorem dX7_works_62 : decode cX7_works 62 = .ok (.if_icmp .gt 325, 3) := by decide +kernel
theorem dX7_works_65 : decode cX7_works 65 = .ok (.iload 7, 2) := by decide +kernel
theorem dX7_works_67 : decode cX7_works 67 = .ok (.iload 8, 2) := by decide +kernel
theorem dX7_works_69 : decode cX7_works 69 = .ok (.isub, 1) := by decide +kernel
theorem dX7_works_70 : decode cX7_works 70 = .ok (.istore 9, 2) := by decide +kernel
theorem dX7_works_72 : decode cX7_works 72 = .ok (.iload 9, 2) := by decide +kernel
theorem dX7_works_74 : decode cX7_works 74 = .ok (.iconst 0, 1) := by decide +kernel
theorem dX7_works_75 : decode cX7_works 75 = .ok (.iload_n 2, 1) := by decide +kernel
theorem dX7_works_76 : decode cX7_works 76 = .ok (.iconst 1, 1) := by decide +kernel
theorem dX7_works_77 : decode cX7_works 77 = .ok (.iadd, 1) := by decide +kernel
theorem dX7_works_78 : decode cX7_works 78 = .ok (.invokestatic 36, 3) := by decide +kernel
theorem dX7_works_81 : decode cX7_works 81 = .ok (.ifCond .eq 300, 3) := by decide +kernel
theorem dX7_works_84 : decode cX7_works 84 = .ok (.bipush 7, 2) := by decide +kernel
theorem dX7_works_86 : decode cX7_works 86 = .ok (.iload 8, 2) := by decide +kernel
theorem dX7_works_88 : decode cX7_works 88 = .ok (.imul, 1) := by decide +kernel
theorem dX7_works_89 : decode cX7_works 89 = .ok (.iload 9, 2) := by decide +kernel
theorem dX7_works_91 : decode cX7_works 91 = .ok (.iadd, 1) := by decide +kernel
theorem dX7_works_92 : decode cX7_works 92 = .ok (.istore 10, 2) := by decide +kernel
theorem dX7_works_94 : decode cX7_works 94 = .ok (.aload_n 0, 1) := by decide +kernel
theorem dX7_works_95 : decode cX7_works 95 = .ok (.aload_n 0, 1) := by decide +kernel
theorem dX7_works_96 : decode cX7_works 96 = .ok (.getfield 7, 3) := by decide +kernel
theorem dX7_works_99 : decode cX7_works 99 = .ok (.bipush 6, 2) := by decide +kernel
theorem dX7_works_101 : decode cX7_works 101 = .ok (.iaload, 1) := by decide +kernel
theorem dX7_works_102 : decode cX7_works 102 = .ok (.iload 8, 2) := by decide +kernel
theorem dX7_works_104 : decode cX7_works 104 = .ok (.iload 9, 2) := by decide +kernel
theorem dX7_works_106 : decode cX7_works 106 = .ok (.invokevirtual 55, 3) := by decide +kernel
theorem dX7_works_109 : decode cX7_works 109 = .ok (.istore 11, 2) := by decide +kernel
theorem dX7_works_111 : decode cX7_works 111 = .ok (.iload 11, 2) := by decide +kernel
theorem dX7_works_113 : decode cX7_works 113 = .ok (.ifCond .le 35, 3) := by decide +kernel
theorem dX7_works_116 : decode cX7_works 116 = .ok (.aload_n 0, 1) := by decide +kernel
theorem dX7_works_117 : decode cX7_works 117 = .ok (.getfield 16, 3) := by decide +kernel
theorem dX7_works_120 : decode cX7_works 120 = .ok (.iload 10, 2) := by decide +kernel
theorem dX7_works_122 : decode cX7_works 122 = .ok (.iload 11, 2) := by decide +kernel
theorem dX7_works_124 : decode cX7_works 124 = .ok (.iconst 1, 1) := by decide +kernel
theorem dX7_works_125 : decode cX7_works 125 = .ok (.if_icmp .ne 10, 3) := by decide +kernel
theorem dX7_works_128 : decode cX7_works 128 = .ok (.aload_n 0, 1) := by decide +kernel
theorem dX7_works_129 : decode cX7_works 129 = .ok (.getfield 61, 3) := by decide +kernel
theorem dX7_works_132 : decode cX7_works 132 = .ok (.goto 4, 3) := by decide +kernel
theorem dX7_works_135 : decode cX7_works 135 = .ok (.lconst 0, 1) := by decide +kernel
theorem dX7_works_136 : decode cX7_works 136 = .ok (.lastore, 1) := by decide +kernel
theorem dX7_works_137 : decode cX7_works 137 = .ok (.aload_n 0, 1) := by decide +kernel
theorem dX7_works_138 : decode cX7_works 138 = .ok (.getfield 20, 3) := by decide +kernel
theorem dX7_works_141 : decode cX7_works 141 = .ok (.iload 10, 2) := by decide +kernel
theorem dX7_works_143 : decode cX7_works 143 = .ok (.lconst 0, 1) := by decide +kernel
theorem dX7_works_144 : decode cX7_works 144 = .ok (.lastore, 1) := by decide +kernel
theorem dX7_works_145 : decode cX7_works 145 = .ok (.goto 236, 3) := by decide +kernel
theorem dX7_works_148 : decode cX7_works 148 = .ok (.iload 8, 2) := by decide +kernel
theorem dX7_works_150 : decode cX7_works 150 = .ok (.iload_n 2, 1) := by decide +kernel
theorem dX7_works_151 : decode cX7_works 151 = .ok (.iconst 1, 1) := by decide +kernel
theorem dX7_works_152 : decode cX7_works 152 = .ok (.isub, 1) := by decide +kernel
theorem dX7_works_153 : decode cX7_works 153 = .ok (.if_icmp .lt 135, 3) := by decide +kernel
theorem dX7_works_156 : decode cX7_works 156 = .ok (.iload 9, 2) := by decide +kernel
theorem dX7_works_158 : decode cX7_works 158 = .ok (.iload_n 2, 1) := by decide +kernel
theorem dX7_works_159 : decode cX7_works 159 = .ok (.iconst 1, 1) := by decide +kernel
theorem dX7_works_160 : decode cX7_works 160 = .ok (.isub, 1) := by decide +kernel
theorem dX7_works_161 : decode cX7_works 161 = .ok (.if_icmp .lt 127, 3) := by decide +kernel
theorem dX7_works_164 : decode cX7_works 164 = .ok (.aload_n 0, 1) := by decide +kernel
theorem dX7_works_165 : decode cX7_works 165 = .ok (.getfield 7, 3) := by decide +kernel
theorem dX7_works_168 : decode cX7_works 168 = .ok (.bipush 6, 2) := by decide +kernel
theorem dX7_works_170 : decode cX7_works 170 = .ok (.iaload, 1) := by decide +kernel
theorem dX7_works_171 : decode cX7_works 171 = .ok (.ifCond .ne 117, 3) := by decide +kernel
theorem dX7_works_174 : decode cX7_works 174 = .ok (.aload_n 0, 1) := by decide +kernel
theorem dX7_works_175 : decode cX7_works 175 = .ok (.getfield 16, 3) := by decide +kernel
theorem dX7_works_178 : decode cX7_works 178 = .ok (.iload 10, 2) := by decide +kernel
theorem dX7_works_180 : decode cX7_works 180 = .ok (.iload 8, 2) := by decide +kernel
theorem dX7_works_182 : decode cX7_works 182 = .ok (.iload 9, 2) := by decide +kernel
theorem dX7_works_184 : decode cX7_works 184 = .ok (.if_icmp .ne 14, 3) := by decide +kernel
theorem dX7_works_187 : decode cX7_works 187 = .ok (.iload_n 3, 1) := by decide +kernel
theorem dX7_works_188 : decode cX7_works 188 = .ok (.iload_n 3, 1) := by decide +kernel
theorem dX7_works_189 : decode cX7_works 189 = .ok (.imul, 1) := by decide +kernel
theorem dX7_works_190 : decode cX7_works 190 = .ok (.i2l, 1) := by decide +kernel
theorem dX7_works_191 : decode cX7_works 191 = .ok (.ldc2_w 59, 3) := by decide +kernel
theorem dX7_works_194 : decode cX7_works 194 = .ok (.lmul, 1) := by decide +kernel
theorem dX7_works_195 : decode cX7_works 195 = .ok (.goto 40, 3) := by decide +kernel
theorem dX7_works_198 : decode cX7_works 198 = .ok (.iload 8, 2) := by decide +kernel
theorem dX7_works_200 : decode cX7_works 200 = .ok (.iload 9, 2) := by decide +kernel
theorem dX7_works_202 : decode cX7_works 202 = .ok (.if_icmp .le 23, 3) := by decide +kernel
theorem dX7_works_205 : decode cX7_works 205 = .ok (.iload_n 3, 1) := by decide +kernel
theorem dX7_works_206 : decode cX7_works 206 = .ok (.i2l, 1) := by decide +kernel
theorem dX7_works_207 : decode cX7_works 207 = .ok (.lload 5, 2) := by decide +kernel
theorem dX7_works_209 : decode cX7_works 209 = .ok (.lmul, 1) := by decide +kernel
theorem dX7_works_210 : decode cX7_works 210 = .ok (.iload 4, 2) := by decide +kernel
theorem dX7_works_212 : decode cX7_works 212 = .ok (.iload_n 3, 1) := by decide +kernel
theorem dX7_works_213 : decode cX7_works 213 = .ok (.imul, 1) := by decide +kernel
theorem dX7_works_214 : decode cX7_works 214 = .ok (.iload_n 3, 1) := by decide +kernel
theorem dX7_works_215 : decode cX7_works 215 = .ok (.imul, 1) := by decide +kernel
theorem dX7_works_216 : decode cX7_works 216 = .ok (.i2l, 1) := by decide +kernel
theorem dX7_works_217 : decode cX7_works 217 = .ok (.ladd, 1) := by decide +kernel
theorem dX7_works_218 : decode cX7_works 218 = .ok (.ldc2_w 64, 3) := by decide +kernel
theorem dX7_works_221 : decode cX7_works 221 = .ok (.lmul, 1) := by decide +kernel
theorem dX7_works_222 : decode cX7_works 222 = .ok (.goto 13, 3) := by decide +kernel
theorem dX7_works_225 : decode cX7_works 225 = .ok (.iload_n 3, 1) := by decide +kernel
theorem dX7_works_226 : decode cX7_works 226 = .ok (.iload_n 3, 1) := by decide +kernel
theorem dX7_works_227 : decode cX7_works 227 = .ok (.imul, 1) := by decide +kernel
theorem dX7_works_228 : decode cX7_works 228 = .ok (.iload_n 3, 1) := by decide +kernel
theorem dX7_works_229 : decode cX7_works 229 = .ok (.imul, 1) := by decide +kernel
theorem dX7_works_230 : decode cX7_works 230 = .ok (.i2l, 1) := by decide +kernel
theorem dX7_works_231 : decode cX7_works 231 = .ok (.ldc2_w 64, 3) := by decide +kernel
theorem dX7_works_234 : decode cX7_works 234 = .ok (.lmul, 1) := by decide +kernel
theorem dX7_works_235 : decode cX7_works 235 = .ok (.lastore, 1) := by decide +kernel
theorem dX7_works_236 : decode cX7_works 236 = .ok (.aload_n 0, 1) := by decide +kernel
theorem dX7_works_237 : decode cX7_works 237 = .ok (.getfield 20, 3) := by decide +kernel
theorem dX7_works_240 : decode cX7_works 240 = .ok (.iload 10, 2) := by decide +kernel
theorem dX7_works_242 : decode cX7_works 242 = .ok (.iload 8, 2) := by decide +kernel
theorem dX7_works_244 : decode cX7_works 244 = .ok (.iload 9, 2) := by decide +kernel
theorem dX7_works_246 : decode cX7_works 246 = .ok (.if_icmp .ne 9, 3) := by decide +kernel
theorem dX7_works_249 : decode cX7_works 249 = .ok (.ldc2_w 66, 3) := by decide +kernel
theorem dX7_works_252 : decode cX7_works 252 = .ok (.goto 32, 3) := by decide +kernel
theorem dX7_works_255 : decode cX7_works 255 = .ok (.ldc2_w 68, 3) := by decide +kernel
theorem dX7_works_258 : decode cX7_works 258 = .ok (.lload 5, 2) := by decide +kernel
theorem dX7_works_260 : decode cX7_works 260 = .ok (.lmul, 1) := by decide +kernel
theorem dX7_works_261 : decode cX7_works 261 = .ok (.ldc2_w 70, 3) := by decide +kernel
theorem dX7_works_264 : decode cX7_works 264 = .ok (.iload 8, 2) := by decide +kernel
theorem dX7_works_266 : decode cX7_works 266 = .ok (.iload 9, 2) := by decide +kernel
theorem dX7_works_268 : decode cX7_works 268 = .ok (.if_icmp .le 8, 3) := by decide +kernel
theorem dX7_works_271 : decode cX7_works 271 = .ok (.iload 4, 2) := by decide +kernel
theorem dX7_works_273 : decode cX7_works 273 = .ok (.goto 4, 3) := by decide +kernel
theorem dX7_works_276 : decode cX7_works 276 = .ok (.iload_n 3, 1) := by decide +kernel
theorem dX7_works_277 : decode cX7_works 277 = .ok (.i2l, 1) := by decide +kernel
theorem dX7_works_278 : decode cX7_works 278 = .ok (.lmul, 1) := by decide +kernel
theorem dX7_works_279 : decode cX7_works 279 = .ok (.ladd, 1) := by decide +kernel
theorem dX7_works_280 : decode cX7_works 280 = .ok (.ldc2_w 64, 3) := by decide +kernel
theorem dX7_works_283 : decode cX7_works 283 = .ok (.lmul, 1) := by decide +kernel
theorem dX7_works_284 : decode cX7_works 284 = .ok (.lastore, 1) := by decide +kernel
theorem dX7_works_285 : decode cX7_works 285 = .ok (.goto 96, 3) := by decide +kernel
theorem dX7_works_288 : decode cX7_works 288 = .ok (.iload 8, 2) := by decide +kernel
theorem dX7_works_290 : decode cX7_works 290 = .ok (.iload_n 2, 1) := by decide +kernel
theorem dX7_works_291 : decode cX7_works 291 = .ok (.if_icmp .gt 90, 3) := by decide +kernel
theorem dX7_works_294 : decode cX7_works 294 = .ok (.iload 9, 2) := by decide +kernel
theorem dX7_works_296 : decode cX7_works 296 = .ok (.iload_n 2, 1) := by decide +kernel
theorem dX7_works_297 : decode cX7_works 297 = .ok (.if_icmp .gt 84, 3) := by decide +kernel
theorem dX7_works_300 : decode cX7_works 300 = .ok (.aload_n 0, 1) := by decide +kernel
theorem dX7_works_301 : decode cX7_works 301 = .ok (.getfield 16, 3) := by decide +kernel
theorem dX7_works_304 : decode cX7_works 304 = .ok (.iload 10, 2) := by decide +kernel
theorem dX7_works_306 : decode cX7_works 306 = .ok (.iload_n 3, 1) := by decide +kernel
theorem dX7_works_307 : decode cX7_works 307 = .ok (.i2l, 1) := by decide +kernel
theorem dX7_works_308 : decode cX7_works 308 = .ok (.aload_n 0, 1) := by decide +kernel
theorem dX7_works_309 : decode cX7_works 309 = .ok (.getfield 16, 3) := by decide +kernel
theorem dX7_works_312 : decode cX7_works 312 = .ok (.iload 10, 2) := by decide +kernel
theorem dX7_works_314 : decode cX7_works 314 = .ok (.bipush 7, 2) := by decide +kernel
theorem dX7_works_316 : decode cX7_works 316 = .ok (.iadd, 1) := by decide +kernel
theorem dX7_works_317 : decode cX7_works 317 = .ok (.laload, 1) := by decide +kernel
theorem dX7_works_318 : decode cX7_works 318 = .ok (.lmul, 1) := by decide +kernel
theorem dX7_works_319 : decode cX7_works 319 = .ok (.iload 4, 2) := by decide +kernel
theorem dX7_works_321 : decode cX7_works 321 = .ok (.i2l, 1) := by decide +kernel
theorem dX7_works_322 : decode cX7_works 322 = .ok (.aload_n 0, 1) := by decide +kernel
theorem dX7_works_323 : decode cX7_works 323 = .ok (.getfield 16, 3) := by decide +kernel
theorem dX7_works_326 : decode cX7_works 326 = .ok (.iload 10, 2) := by decide +kernel
theorem dX7_works_328 : decode cX7_works 328 = .ok (.iconst 1, 1) := by decide +kernel
theorem dX7_works_329 : decode cX7_works 329 = .ok (.iadd, 1) := by decide +kernel
theorem dX7_works_330 : decode cX7_works 330 = .ok (.laload, 1) := by decide +kernel
theorem dX7_works_331 : decode cX7_works 331 = .ok (.lmul, 1) := by decide +kernel
theorem dX7_works_332 : decode cX7_works 332 = .ok (.ladd, 1) := by decide +kernel
theorem dX7_works_333 : decode cX7_works 333 = .ok (.ldc2_w 68, 3) := by decide +kernel
theorem dX7_works_336 : decode cX7_works 336 = .ok (.ldiv, 1) := by decide +kernel
theorem dX7_works_337 : decode cX7_works 337 = .ok (.lastore, 1) := by decide +kernel
theorem dX7_works_338 : decode cX7_works 338 = .ok (.aload_n 0, 1) := by decide +kernel
theorem dX7_works_339 : decode cX7_works 339 = .ok (.getfield 20, 3) := by decide +kernel
theorem dX7_works_342 : decode cX7_works 342 = .ok (.iload 10, 2) := by decide +kernel
theorem dX7_works_344 : decode cX7_works 344 = .ok (.aload_n 0, 1) := by decide +kernel
theorem dX7_works_345 : decode cX7_works 345 = .ok (.getfield 61, 3) := by decide +kernel
theorem dX7_works_348 : decode cX7_works 348 = .ok (.iload_n 3, 1) := by decide +kernel
theorem dX7_works_349 : decode cX7_works 349 = .ok (.i2l, 1) := by decide +kernel
theorem dX7_works_350 : decode cX7_works 350 = .ok (.aload_n 0, 1) := by decide +kernel
theorem dX7_works_351 : decode cX7_works 351 = .ok (.getfield 20, 3) := by decide +kernel
theorem dX7_works_354 : decode cX7_works 354 = .ok (.iload 10, 2) := by decide +kernel
theorem dX7_works_356 : decode cX7_works 356 = .ok (.bipush 7, 2) := by decide +kernel
theorem dX7_works_358 : decode cX7_works 358 = .ok (.iadd, 1) := by decide +kernel
theorem dX7_works_359 : decode cX7_works 359 = .ok (.laload, 1) := by decide +kernel

theorem dX7_works_360 : decode cX7_works 360 = .ok (.lmul, 1) := by decide +kernel
theorem dX7_works_361 : decode cX7_works 361 = .ok (.iload 4, 2) := by decide +kernel
theorem dX7_works_363 : decode cX7_works 363 = .ok (.i2l, 1) := by decide +kernel
theorem dX7_works_364 : decode cX7_works 364 = .ok (.aload_n 0, 1) := by decide +kernel
theorem dX7_works_365 : decode cX7_works 365 = .ok (.getfield 20, 3) := by decide +kernel
theorem dX7_works_368 : decode cX7_works 368 = .ok (.iload 10, 2) := by decide +kernel
theorem dX7_works_370 : decode cX7_works 370 = .ok (.iconst 1, 1) := by decide +kernel
theorem dX7_works_371 : decode cX7_works 371 = .ok (.iadd, 1) := by decide +kernel
theorem dX7_works_372 : decode cX7_works 372 = .ok (.laload, 1) := by decide +kernel
theorem dX7_works_373 : decode cX7_works 373 = .ok (.lmul, 1) := by decide +kernel
theorem dX7_works_374 : decode cX7_works 374 = .ok (.ladd, 1) := by decide +kernel
theorem dX7_works_375 : decode cX7_works 375 = .ok (.ldc2_w 68, 3) := by decide +kernel
theorem dX7_works_378 : decode cX7_works 378 = .ok (.ldiv, 1) := by decide +kernel
theorem dX7_works_379 : decode cX7_works 379 = .ok (.ladd, 1) := by decide +kernel
theorem dX7_works_380 : decode cX7_works 380 = .ok (.lastore, 1) := by decide +kernel
theorem dX7_works_381 : decode cX7_works 381 = .ok (.iinc 8 1, 3) := by decide +kernel
theorem dX7_works_384 : decode cX7_works 384 = .ok (.goto (-327), 3) := by decide +kernel
theorem dX7_works_387 : decode cX7_works 387 = .ok (.iinc 7 (-1), 3) := by decide +kernel
theorem dX7_works_390 : decode cX7_works 390 = .ok (.goto (-341), 3) := by decide +kernel
theorem dX7_works_393 : decode cX7_works 393 = .ok (.return_, 1) := by decide +kernel
theorem dX7_common_0 : decode cX7_common 0 = .ok (.lload_n 0, 1) := by decide +kernel
theorem dX7_common_1 : decode cX7_common 1 = .ok (.lstore 4, 2) := by decide +kernel
theorem dX7_common_3 : decode cX7_common 3 = .ok (.lload_n 2, 1) := by decide +kernel
theorem dX7_common_4 : decode cX7_common 4 = .ok (.lstore 6, 2) := by decide +kernel
theorem dX7_common_6 : decode cX7_common 6 = .ok (.lload 6, 2) := by decide +kernel
theorem dX7_common_8 : decode cX7_common 8 = .ok (.lconst 0, 1) := by decide +kernel
theorem dX7_common_9 : decode cX7_common 9 = .ok (.lcmp, 1) := by decide +kernel
theorem dX7_common_10 : decode cX7_common 10 = .ok (.ifCond .eq 21, 3) := by decide +kernel
theorem dX7_common_13 : decode cX7_common 13 = .ok (.lload 4, 2) := by decide +kernel
theorem dX7_common_15 : decode cX7_common 15 = .ok (.lload 6, 2) := by decide +kernel
theorem dX7_common_17 : decode cX7_common 17 = .ok (.lrem, 1) := by decide +kernel
theorem dX7_common_18 : decode cX7_common 18 = .ok (.lstore 8, 2) := by decide +kernel
theorem dX7_common_20 : decode cX7_common 20 = .ok (.lload 6, 2) := by decide +kernel
theorem dX7_common_22 : decode cX7_common 22 = .ok (.lstore 4, 2) := by decide +kernel
theorem dX7_common_24 : decode cX7_common 24 = .ok (.lload 8, 2) := by decide +kernel
theorem dX7_common_26 : decode cX7_common 26 = .ok (.lstore 6, 2) := by decide +kernel
theorem dX7_common_28 : decode cX7_common 28 = .ok (.goto (-22), 3) := by decide +kernel
theorem dX7_common_31 : decode cX7_common 31 = .ok (.lload 4, 2) := by decide +kernel
theorem dX7_common_33 : decode cX7_common 33 = .ok (.lreturn, 1) := by decide +kernel
set_option maxRecDepth 20000 in
theorem ggX7_part_X7_common : GoodIn wsX7_part wsX7_common := goodIn_r _ [5] (by decide +kernel) (by decide +kernel)
set_option maxRecDepth 20000 in
theorem gX7_part_X7_common : GoodIn wsX7_part (va_wsS RX7 72 yX7_common wsX7_common) := goodIn_app (goodIn_of _ (by decide +kernel)) ggX7_part_X7_common
theorem dX7_part_0 : decode cX7_part 0 = .ok (.lload_n 1, 1) := by decide +kernel
theorem dX7_part_1 : decode cX7_part 1 = .ok (.aload_n 0, 1) := by decide +kernel
theorem dX7_part_2 : decode cX7_part 2 = .ok (.getfield 61, 3) := by decide +kernel
theorem dX7_part_5 : decode cX7_part 5 = .ok (.invokestatic 72, 3) := by decide +kernel
theorem dX7_part_8 : decode cX7_part 8 = .ok (.lstore 4, 2) := by decide +kernel
theorem dX7_part_10 : decode cX7_part 10 = .ok (.iload_n 3, 1) := by decide +kernel
theorem dX7_part_11 : decode cX7_part 11 = .ok (.ifCond .ne 10, 3) := by decide +kernel
theorem dX7_part_14 : decode cX7_part 14 = .ok (.lload_n 1, 1) := by decide +kernel
theorem dX7_part_15 : decode cX7_part 15 = .ok (.lload 4, 2) := by decide +kernel
theorem dX7_part_17 : decode cX7_part 17 = .ok (.ldiv, 1) := by decide +kernel
theorem dX7_part_18 : decode cX7_part 18 = .ok (.goto 10, 3) := by decide +kernel
theorem dX7_part_21 : decode cX7_part 21 = .ok (.aload_n 0, 1) := by decide +kernel
theorem dX7_part_22 : decode cX7_part 22 = .ok (.getfield 61, 3) := by decide +kernel
theorem dX7_part_25 : decode cX7_part 25 = .ok (.lload 4, 2) := by decide +kernel
theorem dX7_part_27 : decode cX7_part 27 = .ok (.ldiv, 1) := by decide +kernel
theorem dX7_part_28 : decode cX7_part 28 = .ok (.lreturn, 1) := by decide +kernel
set_option maxRecDepth 20000 in
theorem ggX7_isAsked_X7_in : GoodIn wsX7_isAsked wsX7_in := goodIn_r _ [5] (by decide +kernel) (by decide +kernel)
set_option maxRecDepth 20000 in
theorem gX7_isAsked_X7_in : GoodIn wsX7_isAsked (va_wsS RX7 36 yX7_in wsX7_in) := goodIn_app (goodIn_of _ (by decide +kernel)) ggX7_isAsked_X7_in
theorem dX7_isAsked_0 : decode cX7_isAsked 0 = .ok (.aload_n 0, 1) := by decide +kernel
theorem dX7_isAsked_1 : decode cX7_isAsked 1 = .ok (.getfield 7, 3) := by decide +kernel
theorem dX7_isAsked_4 : decode cX7_isAsked 4 = .ok (.iconst 2, 1) := by decide +kernel
theorem dX7_isAsked_5 : decode cX7_isAsked 5 = .ok (.iaload, 1) := by decide +kernel
theorem dX7_isAsked_6 : decode cX7_isAsked 6 = .ok (.istore 5, 2) := by decide +kernel
theorem dX7_isAsked_8 : decode cX7_isAsked 8 = .ok (.iload_n 1, 1) := by decide +kernel
theorem dX7_isAsked_9 : decode cX7_isAsked 9 = .ok (.iconst 0, 1) := by decide +kernel
theorem dX7_isAsked_10 : decode cX7_isAsked 10 = .ok (.iload 5, 2) := by decide +kernel
theorem dX7_isAsked_12 : decode cX7_isAsked 12 = .ok (.invokestatic 36, 3) := by decide +kernel
theorem dX7_isAsked_15 : decode cX7_isAsked 15 = .ok (.ifCond .eq 58, 3) := by decide +kernel
theorem dX7_isAsked_18 : decode cX7_isAsked 18 = .ok (.iload_n 2, 1) := by decide +kernel
theorem dX7_isAsked_19 : decode cX7_isAsked 19 = .ok (.iconst 0, 1) := by decide +kernel
theorem dX7_isAsked_20 : decode cX7_isAsked 20 = .ok (.iload 5, 2) := by decide +kernel
theorem dX7_isAsked_22 : decode cX7_isAsked 22 = .ok (.invokestatic 36, 3) := by decide +kernel
theorem dX7_isAsked_25 : decode cX7_isAsked 25 = .ok (.ifCond .eq 48, 3) := by decide +kernel
theorem dX7_isAsked_28 : decode cX7_isAsked 28 = .ok (.aload_n 0, 1) := by decide +kernel
theorem dX7_isAsked_29 : decode cX7_isAsked 29 = .ok (.getfield 7, 3) := by decide +kernel
theorem dX7_isAsked_32 : decode cX7_isAsked 32 = .ok (.bipush 6, 2) := by decide +kernel
theorem dX7_isAsked_34 : decode cX7_isAsked 34 = .ok (.iaload, 1) := by decide +kernel
theorem dX7_isAsked_35 : decode cX7_isAsked 35 = .ok (.ifCond .eq 15, 3) := by decide +kernel
theorem dX7_isAsked_38 : decode cX7_isAsked 38 = .ok (.iload_n 1, 1) := by decide +kernel
theorem dX7_isAsked_39 : decode cX7_isAsked 39 = .ok (.iload 5, 2) := by decide +kernel
theorem dX7_isAsked_41 : decode cX7_isAsked 41 = .ok (.if_icmp .lt 9, 3) := by decide +kernel
theorem dX7_isAsked_44 : decode cX7_isAsked 44 = .ok (.iload_n 2, 1) := by decide +kernel
theorem dX7_isAsked_45 : decode cX7_isAsked 45 = .ok (.iload 5, 2) := by decide +kernel
theorem dX7_isAsked_47 : decode cX7_isAsked 47 = .ok (.if_icmp .ge 26, 3) := by decide +kernel
theorem dX7_isAsked_50 : decode cX7_isAsked 50 = .ok (.iload_n 3, 1) := by decide +kernel
theorem dX7_isAsked_51 : decode cX7_isAsked 51 = .ok (.iconst 0, 1) := by decide +kernel
theorem dX7_isAsked_52 : decode cX7_isAsked 52 = .ok (.iconst 1, 1) := by decide +kernel
theorem dX7_isAsked_53 : decode cX7_isAsked 53 = .ok (.invokestatic 36, 3) := by decide +kernel
theorem dX7_isAsked_56 : decode cX7_isAsked 56 = .ok (.ifCond .eq 17, 3) := by decide +kernel
theorem dX7_isAsked_59 : decode cX7_isAsked 59 = .ok (.iload 4, 2) := by decide +kernel
theorem dX7_isAsked_61 : decode cX7_isAsked 61 = .ok (.iconst 0, 1) := by decide +kernel
theorem dX7_isAsked_62 : decode cX7_isAsked 62 = .ok (.iconst 1, 1) := by decide +kernel
theorem dX7_isAsked_63 : decode cX7_isAsked 63 = .ok (.invokestatic 36, 3) := by decide +kernel
theorem dX7_isAsked_66 : decode cX7_isAsked 66 = .ok (.ifCond .eq 7, 3) := by decide +kernel
theorem dX7_isAsked_69 : decode cX7_isAsked 69 = .ok (.iconst 1, 1) := by decide +kernel
theorem dX7_isAsked_70 : decode cX7_isAsked 70 = .ok (.goto 4, 3) := by decide +kernel
theorem dX7_isAsked_73 : decode cX7_isAsked 73 = .ok (.iconst 0, 1) := by decide +kernel
theorem dX7_isAsked_74 : decode cX7_isAsked 74 = .ok (.ireturn, 1) := by decide +kernel
set_option maxRecDepth 20000 in
theorem ggX7_chance_X7_isAsked : GoodIn wsX7_chance wsX7_isAsked := goodIn_r _ [8, 9, 10, 11, 7, 12, 35, 36, 37, 38, 39, 40, 41, 42, 43, 44, 45] (by decide +kernel) (by decide +kernel)
set_option maxRecDepth 20000 in
theorem gX7_chance_X7_isAsked : GoodIn wsX7_chance (wsV RX7 76 RX7 yX7_isAsked wsX7_isAsked) := goodIn_app (goodIn_of _ (by decide +kernel)) ggX7_chance_X7_isAsked
set_option maxRecDepth 20000 in
theorem ggX7_chance_X7_works : GoodIn wsX7_chance wsX7_works := goodIn_r _ [16, 9, 17, 18, 3, 19, 20, 21, 22, 23, 10, 11, 7, 12, 24, 25, 26, 27, 35, 36, 37, 38, 39, 40, 41, 42, 43, 44, 45] (by decide +kernel) (by decide +kernel)
set_option maxRecDepth 20000 in
theorem gX7_chance_X7_works : GoodIn wsX7_chance (wsV RX7 82 RX7 yX7_works wsX7_works) := goodIn_app (goodIn_of _ (by decide +kernel)) ggX7_chance_X7_works
set_option maxRecDepth 20000 in
theorem ggX7_chance_X7_part : GoodIn wsX7_chance wsX7_part := goodIn_r _ [31, 18, 32, 33, 7, 34, 35, 36, 37, 38, 39, 40, 41, 42, 43, 44, 45] (by decide +kernel) (by decide +kernel)
set_option maxRecDepth 20000 in
theorem gX7_chance_X7_part : GoodIn wsX7_chance (wsV RX7 86 RX7 yX7_part wsX7_part) := goodIn_app (goodIn_of _ (by decide +kernel)) ggX7_chance_X7_part
theorem dX7_chance_0 : decode cX7_chance 0 = .ok (.aload_n 0, 1) := by decide +kernel
theorem dX7_chance_1 : decode cX7_chance 1 = .ok (.iconst 0, 1) := by decide +kernel
theorem dX7_chance_2 : decode cX7_chance 2 = .ok (.putfield 32, 3) := by decide +kernel
theorem dX7_chance_5 : decode cX7_chance 5 = .ok (.aload_n 0, 1) := by decide +kernel
theorem dX7_chance_6 : decode cX7_chance 6 = .ok (.iload_n 1, 1) := by decide +kernel
theorem dX7_chance_7 : decode cX7_chance 7 = .ok (.iload_n 2, 1) := by decide +kernel
theorem dX7_chance_8 : decode cX7_chance 8 = .ok (.iload_n 3, 1) := by decide +kernel
theorem dX7_chance_9 : decode cX7_chance 9 = .ok (.iload 4, 2) := by decide +kernel
theorem dX7_chance_11 : decode cX7_chance 11 = .ok (.invokevirtual 76, 3) := by decide +kernel
theorem dX7_chance_14 : decode cX7_chance 14 = .ok (.ifCond .ne 7, 3) := by decide +kernel
theorem dX7_chance_17 : decode cX7_chance 17 = .ok (.ldc2_w 80, 3) := by decide +kernel
theorem dX7_chance_20 : decode cX7_chance 20 = .ok (.lreturn, 1) := by decide +kernel
theorem dX7_chance_21 : decode cX7_chance 21 = .ok (.aload_n 0, 1) := by decide +kernel
theorem dX7_chance_22 : decode cX7_chance 22 = .ok (.iload_n 3, 1) := by decide +kernel
theorem dX7_chance_23 : decode cX7_chance 23 = .ok (.invokevirtual 82, 3) := by decide +kernel
theorem dX7_chance_26 : decode cX7_chance 26 = .ok (.aload_n 0, 1) := by decide +kernel
theorem dX7_chance_27 : decode cX7_chance 27 = .ok (.aload_n 0, 1) := by decide +kernel
theorem dX7_chance_28 : decode cX7_chance 28 = .ok (.getfield 16, 3) := by decide +kernel
theorem dX7_chance_31 : decode cX7_chance 31 = .ok (.bipush 7, 2) := by decide +kernel
theorem dX7_chance_33 : decode cX7_chance 33 = .ok (.iload_n 1, 1) := by decide +kernel
theorem dX7_chance_34 : decode cX7_chance 34 = .ok (.imul, 1) := by decide +kernel
theorem dX7_chance_35 : decode cX7_chance 35 = .ok (.iload_n 2, 1) := by decide +kernel
theorem dX7_chance_36 : decode cX7_chance 36 = .ok (.iadd, 1) := by decide +kernel
theorem dX7_chance_37 : decode cX7_chance 37 = .ok (.laload, 1) := by decide +kernel
theorem dX7_chance_38 : decode cX7_chance 38 = .ok (.iload 4, 2) := by decide +kernel
theorem dX7_chance_40 : decode cX7_chance 40 = .ok (.invokevirtual 86, 3) := by decide +kernel
theorem dX7_chance_43 : decode cX7_chance 43 = .ok (.lreturn, 1) := by decide +kernel
set_option maxRecDepth 20000 in
theorem ggX7_lasts_X7_isAsked : GoodIn wsX7_lasts wsX7_isAsked := goodIn_r _ [8, 9, 10, 11, 7, 12, 35, 36, 37, 38, 39, 40, 41, 42, 43, 44, 45] (by decide +kernel) (by decide +kernel)
set_option maxRecDepth 20000 in
theorem gX7_lasts_X7_isAsked : GoodIn wsX7_lasts (wsV RX7 76 RX7 yX7_isAsked wsX7_isAsked) := goodIn_app (goodIn_of _ (by decide +kernel)) ggX7_lasts_X7_isAsked
set_option maxRecDepth 20000 in
theorem ggX7_lasts_X7_works : GoodIn wsX7_lasts wsX7_works := goodIn_r _ [16, 9, 17, 18, 19, 3, 20, 21, 22, 23, 10, 11, 7, 12, 24, 25, 26, 27, 35, 36, 37, 38, 39, 40, 41, 42, 43, 44, 45] (by decide +kernel) (by decide +kernel)
set_option maxRecDepth 20000 in
theorem gX7_lasts_X7_works : GoodIn wsX7_lasts (wsV RX7 82 RX7 yX7_works wsX7_works) := goodIn_app (goodIn_of _ (by decide +kernel)) ggX7_lasts_X7_works
set_option maxRecDepth 20000 in
theorem ggX7_lasts_X7_part : GoodIn wsX7_lasts wsX7_part := goodIn_r _ [31, 18, 32, 33, 7, 34, 35, 36, 37, 38, 39, 40, 41, 42, 43, 44, 45] (by decide +kernel) (by decide +kernel)
set_option maxRecDepth 20000 in
theorem gX7_lasts_X7_part : GoodIn wsX7_lasts (wsV RX7 86 RX7 yX7_part wsX7_part) := goodIn_app (goodIn_of _ (by decide +kernel)) ggX7_lasts_X7_part
theorem dX7_lasts_0 : decode cX7_lasts 0 = .ok (.aload_n 0, 1) := by decide +kernel
theorem dX7_lasts_1 : decode cX7_lasts 1 = .ok (.iconst 0, 1) := by decide +kernel
theorem dX7_lasts_2 : decode cX7_lasts 2 = .ok (.putfield 32, 3) := by decide +kernel
theorem dX7_lasts_5 : decode cX7_lasts 5 = .ok (.aload_n 0, 1) := by decide +kernel
theorem dX7_lasts_6 : decode cX7_lasts 6 = .ok (.iload_n 1, 1) := by decide +kernel
theorem dX7_lasts_7 : decode cX7_lasts 7 = .ok (.iload_n 2, 1) := by decide +kernel
theorem dX7_lasts_8 : decode cX7_lasts 8 = .ok (.iload_n 3, 1) := by decide +kernel
theorem dX7_lasts_9 : decode cX7_lasts 9 = .ok (.iload 4, 2) := by decide +kernel
theorem dX7_lasts_11 : decode cX7_lasts 11 = .ok (.invokevirtual 76, 3) := by decide +kernel
theorem dX7_lasts_14 : decode cX7_lasts 14 = .ok (.ifCond .ne 7, 3) := by decide +kernel
theorem dX7_lasts_17 : decode cX7_lasts 17 = .ok (.ldc2_w 80, 3) := by decide +kernel
theorem dX7_lasts_20 : decode cX7_lasts 20 = .ok (.lreturn, 1) := by decide +kernel
theorem dX7_lasts_21 : decode cX7_lasts 21 = .ok (.aload_n 0, 1) := by decide +kernel
theorem dX7_lasts_22 : decode cX7_lasts 22 = .ok (.iload_n 3, 1) := by decide +kernel
theorem dX7_lasts_23 : decode cX7_lasts 23 = .ok (.invokevirtual 82, 3) := by decide +kernel
theorem dX7_lasts_26 : decode cX7_lasts 26 = .ok (.aload_n 0, 1) := by decide +kernel
theorem dX7_lasts_27 : decode cX7_lasts 27 = .ok (.aload_n 0, 1) := by decide +kernel
theorem dX7_lasts_28 : decode cX7_lasts 28 = .ok (.getfield 20, 3) := by decide +kernel
theorem dX7_lasts_31 : decode cX7_lasts 31 = .ok (.bipush 7, 2) := by decide +kernel
theorem dX7_lasts_33 : decode cX7_lasts 33 = .ok (.iload_n 1, 1) := by decide +kernel
theorem dX7_lasts_34 : decode cX7_lasts 34 = .ok (.imul, 1) := by decide +kernel
theorem dX7_lasts_35 : decode cX7_lasts 35 = .ok (.iload_n 2, 1) := by decide +kernel
theorem dX7_lasts_36 : decode cX7_lasts 36 = .ok (.iadd, 1) := by decide +kernel
theorem dX7_lasts_37 : decode cX7_lasts 37 = .ok (.laload, 1) := by decide +kernel
theorem dX7_lasts_38 : decode cX7_lasts 38 = .ok (.iload 4, 2) := by decide +kernel
theorem dX7_lasts_40 : decode cX7_lasts 40 = .ok (.invokevirtual 86, 3) := by decide +kernel
theorem dX7_lasts_43 : decode cX7_lasts 43 = .ok (.lreturn, 1) := by decide +kernel
set_option maxRecDepth 20000 in
theorem ggX7_weight_X7_isAsked : GoodIn wsX7_weight wsX7_isAsked := goodIn_r _ [9, 2, 10, 11, 8, 12, 35, 36, 37, 38, 39, 40, 41, 42, 43, 44, 45] (by decide +kernel) (by decide +kernel)
set_option maxRecDepth 20000 in
theorem gX7_weight_X7_isAsked : GoodIn wsX7_weight (wsV RX7 76 RX7 yX7_isAsked wsX7_isAsked) := goodIn_app (goodIn_of _ (by decide +kernel)) ggX7_weight_X7_isAsked
set_option maxRecDepth 20000 in
theorem ggX7_weight_X7_wonOf : GoodIn wsX7_weight wsX7_wonOf := goodIn_r _ [16, 2, 35, 36, 37, 38, 39, 40, 41, 42, 43, 44, 45] (by decide +kernel) (by decide +kernel)
set_option maxRecDepth 20000 in
theorem gX7_weight_X7_wonOf : GoodIn wsX7_weight (wsV RX7 55 RX7 yX7_wonOf wsX7_wonOf) := goodIn_app (goodIn_of _ (by decide +kernel)) ggX7_weight_X7_wonOf
set_option maxRecDepth 20000 in
theorem ggX7_weight_X7_works : GoodIn wsX7_weight wsX7_works := goodIn_r _ [20, 2, 21, 22, 4, 23, 24, 25, 26, 27, 10, 11, 8, 12, 13, 14, 15, 16, 35, 36, 37, 38, 39, 40, 41, 42, 43, 44, 45] (by decide +kernel) (by decide +kernel)
set_option maxRecDepth 20000 in
theorem gX7_weight_X7_works : GoodIn wsX7_weight (wsV RX7 82 RX7 yX7_works wsX7_works) := goodIn_app (goodIn_of _ (by decide +kernel)) ggX7_weight_X7_works
set_option maxRecDepth 20000 in
theorem ggX7_weight_X7_part : GoodIn wsX7_weight wsX7_part := goodIn_r _ [31, 22, 32, 33, 8, 34, 35, 36, 37, 38, 39, 40, 41, 42, 43, 44, 45] (by decide +kernel) (by decide +kernel)
set_option maxRecDepth 20000 in
theorem gX7_weight_X7_part : GoodIn wsX7_weight (wsV RX7 86 RX7 yX7_part wsX7_part) := goodIn_app (goodIn_of _ (by decide +kernel)) ggX7_weight_X7_part
theorem dX7_weight_0 : decode cX7_weight 0 = .ok (.aload_n 0, 1) := by decide +kernel
theorem dX7_weight_1 : decode cX7_weight 1 = .ok (.iconst 0, 1) := by decide +kernel
theorem dX7_weight_2 : decode cX7_weight 2 = .ok (.putfield 32, 3) := by decide +kernel
theorem dX7_weight_5 : decode cX7_weight 5 = .ok (.aload_n 0, 1) := by decide +kernel
theorem dX7_weight_6 : decode cX7_weight 6 = .ok (.iload_n 1, 1) := by decide +kernel
theorem dX7_weight_7 : decode cX7_weight 7 = .ok (.iload_n 2, 1) := by decide +kernel
theorem dX7_weight_8 : decode cX7_weight 8 = .ok (.iload_n 3, 1) := by decide +kernel
theorem dX7_weight_9 : decode cX7_weight 9 = .ok (.iload 4, 2) := by decide +kernel
theorem dX7_weight_11 : decode cX7_weight 11 = .ok (.invokevirtual 76, 3) := by decide +kernel
theorem dX7_weight_14 : decode cX7_weight 14 = .ok (.ifCond .eq 19, 3) := by decide +kernel
theorem dX7_weight_17 : decode cX7_weight 17 = .ok (.aload_n 0, 1) := by decide +kernel
theorem dX7_weight_18 : decode cX7_weight 18 = .ok (.aload_n 0, 1) := by decide +kernel
theorem dX7_weight_19 : decode cX7_weight 19 = .ok (.getfield 7, 3) := by decide +kernel
theorem dX7_weight_22 : decode cX7_weight 22 = .ok (.bipush 6, 2) := by decide +kernel
theorem dX7_weight_24 : decode cX7_weight 24 = .ok (.iaload, 1) := by decide +kernel
theorem dX7_weight_25 : decode cX7_weight 25 = .ok (.iload_n 1, 1) := by decide +kernel
theorem dX7_weight_26 : decode cX7_weight 26 = .ok (.iload_n 2, 1) := by decide +kernel
theorem dX7_weight_27 : decode cX7_weight 27 = .ok (.invokevirtual 55, 3) := by decide +kernel
theorem dX7_weight_30 : decode cX7_weight 30 = .ok (.ifCond .le 7, 3) := by decide +kernel
theorem dX7_weight_33 : decode cX7_weight 33 = .ok (.ldc2_w 80, 3) := by decide +kernel
theorem dX7_weight_36 : decode cX7_weight 36 = .ok (.lreturn, 1) := by decide +kernel
theorem dX7_weight_37 : decode cX7_weight 37 = .ok (.aload_n 0, 1) := by decide +kernel
theorem dX7_weight_38 : decode cX7_weight 38 = .ok (.iload_n 3, 1) := by decide +kernel
theorem dX7_weight_39 : decode cX7_weight 39 = .ok (.invokevirtual 82, 3) := by decide +kernel
theorem dX7_weight_42 : decode cX7_weight 42 = .ok (.aload_n 0, 1) := by decide +kernel
theorem dX7_weight_43 : decode cX7_weight 43 = .ok (.aload_n 0, 1) := by decide +kernel
theorem dX7_weight_44 : decode cX7_weight 44 = .ok (.getfield 16, 3) := by decide +kernel
theorem dX7_weight_47 : decode cX7_weight 47 = .ok (.bipush 7, 2) := by decide +kernel
theorem dX7_weight_49 : decode cX7_weight 49 = .ok (.iload_n 1, 1) := by decide +kernel
theorem dX7_weight_50 : decode cX7_weight 50 = .ok (.imul, 1) := by decide +kernel
theorem dX7_weight_51 : decode cX7_weight 51 = .ok (.bipush 7, 2) := by decide +kernel
theorem dX7_weight_53 : decode cX7_weight 53 = .ok (.iadd, 1) := by decide +kernel
theorem dX7_weight_54 : decode cX7_weight 54 = .ok (.iload_n 2, 1) := by decide +kernel
theorem dX7_weight_55 : decode cX7_weight 55 = .ok (.iadd, 1) := by decide +kernel
theorem dX7_weight_56 : decode cX7_weight 56 = .ok (.laload, 1) := by decide +kernel
theorem dX7_weight_57 : decode cX7_weight 57 = .ok (.aload_n 0, 1) := by decide +kernel
theorem dX7_weight_58 : decode cX7_weight 58 = .ok (.getfield 16, 3) := by decide +kernel
theorem dX7_weight_61 : decode cX7_weight 61 = .ok (.bipush 7, 2) := by decide +kernel
theorem dX7_weight_63 : decode cX7_weight 63 = .ok (.iload_n 1, 1) := by decide +kernel
theorem dX7_weight_64 : decode cX7_weight 64 = .ok (.imul, 1) := by decide +kernel
theorem dX7_weight_65 : decode cX7_weight 65 = .ok (.iload_n 2, 1) := by decide +kernel
theorem dX7_weight_66 : decode cX7_weight 66 = .ok (.iadd, 1) := by decide +kernel
theorem dX7_weight_67 : decode cX7_weight 67 = .ok (.iconst 1, 1) := by decide +kernel
theorem dX7_weight_68 : decode cX7_weight 68 = .ok (.iadd, 1) := by decide +kernel
theorem dX7_weight_69 : decode cX7_weight 69 = .ok (.laload, 1) := by decide +kernel
theorem dX7_weight_70 : decode cX7_weight 70 = .ok (.lsub, 1) := by decide +kernel
theorem dX7_weight_71 : decode cX7_weight 71 = .ok (.iload 4, 2) := by decide +kernel
theorem dX7_weight_73 : decode cX7_weight 73 = .ok (.invokevirtual 86, 3) := by decide +kernel
theorem dX7_weight_76 : decode cX7_weight 76 = .ok (.lreturn, 1) := by decide +kernel
set_option maxRecDepth 20000 in
theorem ggX7_heaviest_X7_in : GoodIn wsX7_heaviest wsX7_in := goodIn_r _ [8] (by decide +kernel) (by decide +kernel)
set_option maxRecDepth 20000 in
theorem gX7_heaviest_X7_in : GoodIn wsX7_heaviest (va_wsS RX7 36 yX7_in wsX7_in) := goodIn_app (goodIn_of _ (by decide +kernel)) ggX7_heaviest_X7_in
set_option maxRecDepth 20000 in
theorem ggX7_heaviest_X7_works : GoodIn wsX7_heaviest wsX7_works := goodIn_r _ [12, 3, 13, 14, 4, 15, 16, 17, 18, 19, 5, 6, 7, 8, 20, 21, 22, 23, 24, 25, 26, 27, 28, 29, 30, 31, 32, 33, 34] (by decide +kernel) (by decide +kernel)
set_option maxRecDepth 20000 in
theorem gX7_heaviest_X7_works : GoodIn wsX7_heaviest (wsV RX7 82 RX7 yX7_works wsX7_works) := goodIn_app (goodIn_of _ (by decide +kernel)) ggX7_heaviest_X7_works
set_option maxRecDepth 20000 in
theorem ggX7_heaviest_X7_wonOf : GoodIn wsX7_heaviest wsX7_wonOf := goodIn_r _ [23, 3, 24, 25, 26, 27, 28, 29, 30, 31, 32, 33, 34] (by decide +kernel) (by decide +kernel)
set_option maxRecDepth 20000 in
theorem gX7_heaviest_X7_wonOf : GoodIn wsX7_heaviest (wsV RX7 55 RX7 yX7_wonOf wsX7_wonOf) := goodIn_app (goodIn_of _ (by decide +kernel)) ggX7_heaviest_X7_wonOf
theorem dX7_heaviest_0 : decode cX7_heaviest 0 = .ok (.aload_n 0, 1) := by decide +kernel
theorem dX7_heaviest_1 : decode cX7_heaviest 1 = .ok (.iconst 0, 1) := by decide +kernel
theorem dX7_heaviest_2 : decode cX7_heaviest 2 = .ok (.putfield 32, 3) := by decide +kernel
theorem dX7_heaviest_5 : decode cX7_heaviest 5 = .ok (.iload_n 1, 1) := by decide +kernel
theorem dX7_heaviest_6 : decode cX7_heaviest 6 = .ok (.iconst 0, 1) := by decide +kernel
theorem dX7_heaviest_7 : decode cX7_heaviest 7 = .ok (.iconst 1, 1) := by decide +kernel
theorem dX7_heaviest_8 : decode cX7_heaviest 8 = .ok (.invokestatic 36, 3) := by decide +kernel
theorem dX7_heaviest_11 : decode cX7_heaviest 11 = .ok (.ifCond .eq 12, 3) := by decide +kernel
theorem dX7_heaviest_14 : decode cX7_heaviest 14 = .ok (.iload_n 2, 1) := by decide +kernel
theorem dX7_heaviest_15 : decode cX7_heaviest 15 = .ok (.iconst 0, 1) := by decide +kernel
theorem dX7_heaviest_16 : decode cX7_heaviest 16 = .ok (.iconst 1, 1) := by decide +kernel
theorem dX7_heaviest_17 : decode cX7_heaviest 17 = .ok (.invokestatic 36, 3) := by decide +kernel
theorem dX7_heaviest_20 : decode cX7_heaviest 20 = .ok (.ifCond .ne 5, 3) := by decide +kernel
theorem dX7_heaviest_23 : decode cX7_heaviest 23 = .ok (.iconst (-1), 1) := by decide +kernel
theorem dX7_heaviest_24 : decode cX7_heaviest 24 = .ok (.ireturn, 1) := by decide +kernel
theorem dX7_heaviest_25 : decode cX7_heaviest 25 = .ok (.aload_n 0, 1) := by decide +kernel
theorem dX7_heaviest_26 : decode cX7_heaviest 26 = .ok (.iload_n 1, 1) := by decide +kernel
theorem dX7_heaviest_27 : decode cX7_heaviest 27 = .ok (.invokevirtual 82, 3) := by decide +kernel
theorem dX7_heaviest_30 : decode cX7_heaviest 30 = .ok (.ldc2_w 90, 3) := by decide +kernel
theorem dX7_heaviest_33 : decode cX7_heaviest 33 = .ok (.lstore_n 3, 1) := by decide +kernel
theorem dX7_heaviest_34 : decode cX7_heaviest 34 = .ok (.iconst 0, 1) := by decide +kernel
theorem dX7_heaviest_35 : decode cX7_heaviest 35 = .ok (.istore 5, 2) := by decide +kernel
theorem dX7_heaviest_37 : decode cX7_heaviest 37 = .ok (.iconst 0, 1) := by decide +kernel
theorem dX7_heaviest_38 : decode cX7_heaviest 38 = .ok (.istore 6, 2) := by decide +kernel
theorem dX7_heaviest_40 : decode cX7_heaviest 40 = .ok (.iload 6, 2) := by decide +kernel
theorem dX7_heaviest_42 : decode cX7_heaviest 42 = .ok (.aload_n 0, 1) := by decide +kernel
theorem dX7_heaviest_43 : decode cX7_heaviest 43 = .ok (.getfield 7, 3) := by decide +kernel
theorem dX7_heaviest_46 : decode cX7_heaviest 46 = .ok (.iconst 2, 1) := by decide +kernel
theorem dX7_heaviest_47 : decode cX7_heaviest 47 = .ok (.iaload, 1) := by decide +kernel
theorem dX7_heaviest_48 : decode cX7_heaviest 48 = .ok (.if_icmp .ge 101, 3) := by decide +kernel
theorem dX7_heaviest_51 : decode cX7_heaviest 51 = .ok (.iconst 0, 1) := by decide +kernel
theorem dX7_heaviest_52 : decode cX7_heaviest 52 = .ok (.istore 7, 2) := by decide +kernel
theorem dX7_heaviest_54 : decode cX7_heaviest 54 = .ok (.iload 7, 2) := by decide +kernel
theorem dX7_heaviest_56 : decode cX7_heaviest 56 = .ok (.aload_n 0, 1) := by decide +kernel
theorem dX7_heaviest_57 : decode cX7_heaviest 57 = .ok (.getfield 7, 3) := by decide +kernel
theorem dX7_heaviest_60 : decode cX7_heaviest 60 = .ok (.iconst 2, 1) := by decide +kernel
theorem dX7_heaviest_61 : decode cX7_heaviest 61 = .ok (.iaload, 1) := by decide +kernel
theorem dX7_heaviest_62 : decode cX7_heaviest 62 = .ok (.if_icmp .ge 81, 3) := by decide +kernel
theorem dX7_heaviest_65 : decode cX7_heaviest 65 = .ok (.aload_n 0, 1) := by decide +kernel
theorem dX7_heaviest_66 : decode cX7_heaviest 66 = .ok (.getfield 16, 3) := by decide +kernel
theorem dX7_heaviest_69 : decode cX7_heaviest 69 = .ok (.bipush 7, 2) := by decide +kernel
theorem dX7_heaviest_71 : decode cX7_heaviest 71 = .ok (.iload 6, 2) := by decide +kernel
theorem dX7_heaviest_73 : decode cX7_heaviest 73 = .ok (.imul, 1) := by decide +kernel
theorem dX7_heaviest_74 : decode cX7_heaviest 74 = .ok (.bipush 7, 2) := by decide +kernel
theorem dX7_heaviest_76 : decode cX7_heaviest 76 = .ok (.iadd, 1) := by decide +kernel
theorem dX7_heaviest_77 : decode cX7_heaviest 77 = .ok (.iload 7, 2) := by decide +kernel
theorem dX7_heaviest_79 : decode cX7_heaviest 79 = .ok (.iadd, 1) := by decide +kernel
theorem dX7_heaviest_80 : decode cX7_heaviest 80 = .ok (.laload, 1) := by decide +kernel
theorem dX7_heaviest_81 : decode cX7_heaviest 81 = .ok (.aload_n 0, 1) := by decide +kernel
theorem dX7_heaviest_82 : decode cX7_heaviest 82 = .ok (.getfield 16, 3) := by decide +kernel
theorem dX7_heaviest_85 : decode cX7_heaviest 85 = .ok (.bipush 7, 2) := by decide +kernel
theorem dX7_heaviest_87 : decode cX7_heaviest 87 = .ok (.iload 6, 2) := by decide +kernel
theorem dX7_heaviest_89 : decode cX7_heaviest 89 = .ok (.imul, 1) := by decide +kernel
theorem dX7_heaviest_90 : decode cX7_heaviest 90 = .ok (.iload 7, 2) := by decide +kernel
theorem dX7_heaviest_92 : decode cX7_heaviest 92 = .ok (.iadd, 1) := by decide +kernel
theorem dX7_heaviest_93 : decode cX7_heaviest 93 = .ok (.iconst 1, 1) := by decide +kernel
theorem dX7_heaviest_94 : decode cX7_heaviest 94 = .ok (.iadd, 1) := by decide +kernel
theorem dX7_heaviest_95 : decode cX7_heaviest 95 = .ok (.laload, 1) := by decide +kernel
theorem dX7_heaviest_96 : decode cX7_heaviest 96 = .ok (.lsub, 1) := by decide +kernel
theorem dX7_heaviest_97 : decode cX7_heaviest 97 = .ok (.lstore 8, 2) := by decide +kernel
theorem dX7_heaviest_99 : decode cX7_heaviest 99 = .ok (.aload_n 0, 1) := by decide +kernel
theorem dX7_heaviest_100 : decode cX7_heaviest 100 = .ok (.aload_n 0, 1) := by decide +kernel
theorem dX7_heaviest_101 : decode cX7_heaviest 101 = .ok (.getfield 7, 3) := by decide +kernel
theorem dX7_heaviest_104 : decode cX7_heaviest 104 = .ok (.bipush 6, 2) := by decide +kernel
theorem dX7_heaviest_106 : decode cX7_heaviest 106 = .ok (.iaload, 1) := by decide +kernel
theorem dX7_heaviest_107 : decode cX7_heaviest 107 = .ok (.iload 6, 2) := by decide +kernel
theorem dX7_heaviest_109 : decode cX7_heaviest 109 = .ok (.iload 7, 2) := by decide +kernel
theorem dX7_heaviest_111 : decode cX7_heaviest 111 = .ok (.invokevirtual 55, 3) := by decide +kernel
theorem dX7_heaviest_114 : decode cX7_heaviest 114 = .ok (.ifCond .ne 23, 3) := by decide +kernel
theorem dX7_heaviest_117 : decode cX7_heaviest 117 = .ok (.lload 8, 2) := by decide +kernel
theorem dX7_heaviest_119 : decode cX7_heaviest 119 = .ok (.lload_n 3, 1) := by decide +kernel
theorem dX7_heaviest_120 : decode cX7_heaviest 120 = .ok (.lcmp, 1) := by decide +kernel
theorem dX7_heaviest_121 : decode cX7_heaviest 121 = .ok (.ifCond .le 16, 3) := by decide +kernel
theorem dX7_heaviest_124 : decode cX7_heaviest 124 = .ok (.lload 8, 2) := by decide +kernel
theorem dX7_heaviest_126 : decode cX7_heaviest 126 = .ok (.lstore_n 3, 1) := by decide +kernel
theorem dX7_heaviest_127 : decode cX7_heaviest 127 = .ok (.bipush 7, 2) := by decide +kernel
theorem dX7_heaviest_129 : decode cX7_heaviest 129 = .ok (.iload 6, 2) := by decide +kernel
theorem dX7_heaviest_131 : decode cX7_heaviest 131 = .ok (.imul, 1) := by decide +kernel
theorem dX7_heaviest_132 : decode cX7_heaviest 132 = .ok (.iload 7, 2) := by decide +kernel
theorem dX7_heaviest_134 : decode cX7_heaviest 134 = .ok (.iadd, 1) := by decide +kernel
theorem dX7_heaviest_135 : decode cX7_heaviest 135 = .ok (.istore 5, 2) := by decide +kernel
theorem dX7_heaviest_137 : decode cX7_heaviest 137 = .ok (.iinc 7 1, 3) := by decide +kernel
theorem dX7_heaviest_140 : decode cX7_heaviest 140 = .ok (.goto (-86), 3) := by decide +kernel
theorem dX7_heaviest_143 : decode cX7_heaviest 143 = .ok (.iinc 6 1, 3) := by decide +kernel
theorem dX7_heaviest_146 : decode cX7_heaviest 146 = .ok (.goto (-106), 3) := by decide +kernel
theorem dX7_heaviest_149 : decode cX7_heaviest 149 = .ok (.iload_n 2, 1) := by decide +kernel
theorem dX7_heaviest_150 : decode cX7_heaviest 150 = .ok (.ifCond .ne 11, 3) := by decide +kernel
theorem dX7_heaviest_153 : decode cX7_heaviest 153 = .ok (.iload 5, 2) := by decide +kernel
theorem dX7_heaviest_155 : decode cX7_heaviest 155 = .ok (.bipush 7, 2) := by decide +kernel
theorem dX7_heaviest_157 : decode cX7_heaviest 157 = .ok (.idiv, 1) := by decide +kernel
theorem dX7_heaviest_158 : decode cX7_heaviest 158 = .ok (.goto 8, 3) := by decide +kernel
theorem dX7_heaviest_161 : decode cX7_heaviest 161 = .ok (.iload 5, 2) := by decide +kernel
theorem dX7_heaviest_163 : decode cX7_heaviest 163 = .ok (.bipush 7, 2) := by decide +kernel
theorem dX7_heaviest_165 : decode cX7_heaviest 165 = .ok (.irem, 1) := by decide +kernel
theorem dX7_heaviest_166 : decode cX7_heaviest 166 = .ok (.ireturn, 1) := by decide +kernel
set_option maxRecDepth 20000 in
theorem ggX7_gameOf_X7_works : GoodIn wsX7_gameOf wsX7_works := goodIn_r _ [9, 2, 10, 4, 1, 11, 12, 13, 14, 15, 16, 17, 8, 18, 19, 20, 21, 22, 23, 24, 25, 26, 27, 28, 29, 30, 31, 32, 33] (by decide +kernel) (by decide +kernel)
set_option maxRecDepth 20000 in
theorem gX7_gameOf_X7_works : GoodIn wsX7_gameOf (wsV RX7 82 RX7 yX7_works wsX7_works) := goodIn_app (goodIn_of _ (by decide +kernel)) ggX7_gameOf_X7_works
theorem dX7_gameOf_0 : decode cX7_gameOf 0 = .ok (.aload_n 0, 1) := by decide +kernel
theorem dX7_gameOf_1 : decode cX7_gameOf 1 = .ok (.iload_n 1, 1) := by decide +kernel
theorem dX7_gameOf_2 : decode cX7_gameOf 2 = .ok (.invokevirtual 82, 3) := by decide +kernel
theorem dX7_gameOf_5 : decode cX7_gameOf 5 = .ok (.aload_n 0, 1) := by decide +kernel
theorem dX7_gameOf_6 : decode cX7_gameOf 6 = .ok (.getfield 16, 3) := by decide +kernel
theorem dX7_gameOf_9 : decode cX7_gameOf 9 = .ok (.iload_n 1, 1) := by decide +kernel
theorem dX7_gameOf_10 : decode cX7_gameOf 10 = .ok (.ifCond .ne 15, 3) := by decide +kernel
theorem dX7_gameOf_13 : decode cX7_gameOf 13 = .ok (.bipush 7, 2) := by decide +kernel
theorem dX7_gameOf_15 : decode cX7_gameOf 15 = .ok (.aload_n 0, 1) := by decide +kernel
theorem dX7_gameOf_16 : decode cX7_gameOf 16 = .ok (.getfield 7, 3) := by decide +kernel
theorem dX7_gameOf_19 : decode cX7_gameOf 19 = .ok (.iconst 5, 1) := by decide +kernel
theorem dX7_gameOf_20 : decode cX7_gameOf 20 = .ok (.iaload, 1) := by decide +kernel
theorem dX7_gameOf_21 : decode cX7_gameOf 21 = .ok (.imul, 1) := by decide +kernel
theorem dX7_gameOf_22 : decode cX7_gameOf 22 = .ok (.goto 4, 3) := by decide +kernel
theorem dX7_gameOf_25 : decode cX7_gameOf 25 = .ok (.iconst 0, 1) := by decide +kernel
theorem dX7_gameOf_26 : decode cX7_gameOf 26 = .ok (.laload, 1) := by decide +kernel
theorem dX7_gameOf_27 : decode cX7_gameOf 27 = .ok (.ldc2_w 92, 3) := by decide +kernel
theorem dX7_gameOf_30 : decode cX7_gameOf 30 = .ok (.lmul, 1) := by decide +kernel
theorem dX7_gameOf_31 : decode cX7_gameOf 31 = .ok (.aload_n 0, 1) := by decide +kernel
theorem dX7_gameOf_32 : decode cX7_gameOf 32 = .ok (.getfield 61, 3) := by decide +kernel
theorem dX7_gameOf_35 : decode cX7_gameOf 35 = .ok (.ldiv, 1) := by decide +kernel
theorem dX7_gameOf_36 : decode cX7_gameOf 36 = .ok (.lreturn, 1) := by decide +kernel
set_option maxRecDepth 20000 in
theorem ggX7_game_X7_in : GoodIn wsX7_game wsX7_in := goodIn_r _ [5] (by decide +kernel) (by decide +kernel)
set_option maxRecDepth 20000 in
theorem gX7_game_X7_in : GoodIn wsX7_game (va_wsS RX7 36 yX7_in wsX7_in) := goodIn_app (goodIn_of _ (by decide +kernel)) ggX7_game_X7_in
set_option maxRecDepth 20000 in
theorem ggX7_game_X7_gameOf : GoodIn wsX7_game wsX7_gameOf := goodIn_r _ [9, 10, 11, 12, 13, 14, 15, 16, 4, 17, 18, 19, 20, 21, 22, 23, 2, 3, 5, 24, 25, 26, 27, 28, 29, 30, 31, 32, 33, 34, 35, 36, 37, 38] (by decide +kernel) (by decide +kernel)
set_option maxRecDepth 20000 in
theorem gX7_game_X7_gameOf : GoodIn wsX7_game (wsV RX7 94 RX7 yX7_gameOf wsX7_gameOf) := goodIn_app (goodIn_of _ (by decide +kernel)) ggX7_game_X7_gameOf
theorem dX7_game_0 : decode cX7_game 0 = .ok (.aload_n 0, 1) := by decide +kernel
theorem dX7_game_1 : decode cX7_game 1 = .ok (.iconst 0, 1) := by decide +kernel
theorem dX7_game_2 : decode cX7_game 2 = .ok (.putfield 32, 3) := by decide +kernel
theorem dX7_game_5 : decode cX7_game 5 = .ok (.iload_n 1, 1) := by decide +kernel
theorem dX7_game_6 : decode cX7_game 6 = .ok (.iconst 0, 1) := by decide +kernel
theorem dX7_game_7 : decode cX7_game 7 = .ok (.iconst 1, 1) := by decide +kernel
theorem dX7_game_8 : decode cX7_game 8 = .ok (.invokestatic 36, 3) := by decide +kernel
theorem dX7_game_11 : decode cX7_game 11 = .ok (.ifCond .eq 12, 3) := by decide +kernel
theorem dX7_game_14 : decode cX7_game 14 = .ok (.aload_n 0, 1) := by decide +kernel
theorem dX7_game_15 : decode cX7_game 15 = .ok (.iload_n 1, 1) := by decide +kernel
theorem dX7_game_16 : decode cX7_game 16 = .ok (.invokevirtual 94, 3) := by decide +kernel
theorem dX7_game_19 : decode cX7_game 19 = .ok (.l2i, 1) := by decide +kernel
theorem dX7_game_20 : decode cX7_game 20 = .ok (.goto 4, 3) := by decide +kernel
theorem dX7_game_23 : decode cX7_game 23 = .ok (.iconst (-1), 1) := by decide +kernel
theorem dX7_game_24 : decode cX7_game 24 = .ok (.ireturn, 1) := by decide +kernel
set_option maxRecDepth 20000 in
theorem ggX7_worksSets_X7_gameOf : GoodIn wsX7_worksSets wsX7_gameOf := goodIn_r _ [9, 10, 1, 3, 11, 12, 13, 14, 8, 15, 16, 17, 18, 19, 20, 21, 22, 23, 24, 25, 26, 27, 28, 29, 30, 31, 32, 33, 34, 35, 36, 37, 38, 39] (by decide +kernel) (by decide +kernel)
set_option maxRecDepth 20000 in
theorem gX7_worksSets_X7_gameOf : GoodIn wsX7_worksSets (wsV RX7 94 RX7 yX7_gameOf wsX7_gameOf) := goodIn_app (goodIn_of _ (by decide +kernel)) ggX7_worksSets_X7_gameOf
set_option maxRecDepth 20000 in
theorem ggX7_worksSets_X7_in : GoodIn wsX7_worksSets wsX7_in := goodIn_r _ [24] (by decide +kernel) (by decide +kernel)
set_option maxRecDepth 20000 in
theorem gX7_worksSets_X7_in : GoodIn wsX7_worksSets (va_wsS RX7 36 yX7_in wsX7_in) := goodIn_app (goodIn_of _ (by decide +kernel)) ggX7_worksSets_X7_in
theorem dX7_worksSets_0 : decode cX7_worksSets 0 = .ok (.aload_n 0, 1) := by decide +kernel
theorem dX7_worksSets_1 : decode cX7_worksSets 1 = .ok (.getfield 7, 3) := by decide +kernel
theorem dX7_worksSets_4 : decode cX7_worksSets 4 = .ok (.iconst 3, 1) := by decide +kernel
theorem dX7_worksSets_5 : decode cX7_worksSets 5 = .ok (.iaload, 1) := by decide +kernel
theorem dX7_worksSets_6 : decode cX7_worksSets 6 = .ok (.istore_n 1, 1) := by decide +kernel
theorem dX7_worksSets_7 : decode cX7_worksSets 7 = .ok (.aload_n 0, 1) := by decide +kernel
theorem dX7_worksSets_8 : decode cX7_worksSets 8 = .ok (.iconst 0, 1) := by decide +kernel
theorem dX7_worksSets_9 : decode cX7_worksSets 9 = .ok (.invokevirtual 94, 3) := by decide +kernel
theorem dX7_worksSets_12 : decode cX7_worksSets 12 = .ok (.lstore_n 2, 1) := by decide +kernel
theorem dX7_worksSets_13 : decode cX7_worksSets 13 = .ok (.aload_n 0, 1) := by decide +kernel
theorem dX7_worksSets_14 : decode cX7_worksSets 14 = .ok (.iconst 1, 1) := by decide +kernel
theorem dX7_worksSets_15 : decode cX7_worksSets 15 = .ok (.invokevirtual 94, 3) := by decide +kernel
theorem dX7_worksSets_18 : decode cX7_worksSets 18 = .ok (.lstore 4, 2) := by decide +kernel
theorem dX7_worksSets_20 : decode cX7_worksSets 20 = .ok (.iconst 2, 1) := by decide +kernel
theorem dX7_worksSets_21 : decode cX7_worksSets 21 = .ok (.iload_n 1, 1) := by decide +kernel
theorem dX7_worksSets_22 : decode cX7_worksSets 22 = .ok (.imul, 1) := by decide +kernel
theorem dX7_worksSets_23 : decode cX7_worksSets 23 = .ok (.iconst 1, 1) := by decide +kernel
theorem dX7_worksSets_24 : decode cX7_worksSets 24 = .ok (.iadd, 1) := by decide +kernel
theorem dX7_worksSets_25 : decode cX7_worksSets 25 = .ok (.istore 6, 2) := by decide +kernel
theorem dX7_worksSets_27 : decode cX7_worksSets 27 = .ok (.iload 6, 2) := by decide +kernel
theorem dX7_worksSets_29 : decode cX7_worksSets 29 = .ok (.ifCond .lt 261, 3) := by decide +kernel
theorem dX7_worksSets_32 : decode cX7_worksSets 32 = .ok (.iconst 0, 1) := by decide +kernel
theorem dX7_worksSets_33 : decode cX7_worksSets 33 = .ok (.istore 7, 2) := by decide +kernel
theorem dX7_worksSets_35 : decode cX7_worksSets 35 = .ok (.iload 7, 2) := by decide +kernel
theorem dX7_worksSets_37 : decode cX7_worksSets 37 = .ok (.iload_n 1, 1) := by decide +kernel
theorem dX7_worksSets_38 : decode cX7_worksSets 38 = .ok (.iconst 1, 1) := by decide +kernel
theorem dX7_worksSets_39 : decode cX7_worksSets 39 = .ok (.iadd, 1) := by decide +kernel
theorem dX7_worksSets_40 : decode cX7_worksSets 40 = .ok (.if_icmp .gt 244, 3) := by decide +kernel
theorem dX7_worksSets_43 : decode cX7_worksSets 43 = .ok (.iload 6, 2) := by decide +kernel
theorem dX7_worksSets_45 : decode cX7_worksSets 45 = .ok (.iload 7, 2) := by decide +kernel
theorem dX7_worksSets_47 : decode cX7_worksSets 47 = .ok (.isub, 1) := by decide +kernel
theorem dX7_worksSets_48 : decode cX7_worksSets 48 = .ok (.istore 8, 2) := by decide +kernel
theorem dX7_worksSets_50 : decode cX7_worksSets 50 = .ok (.iconst 0, 1) := by decide +kernel
theorem dX7_worksSets_51 : decode cX7_worksSets 51 = .ok (.istore 9, 2) := by decide +kernel
theorem dX7_worksSets_53 : decode cX7_worksSets 53 = .ok (.iload 9, 2) := by decide +kernel
theorem dX7_worksSets_55 : decode cX7_worksSets 55 = .ok (.iconst 2, 1) := by decide +kernel
theorem dX7_worksSets_56 : decode cX7_worksSets 56 = .ok (.if_icmp .ge 222, 3) := by decide +kernel
theorem dX7_worksSets_59 : decode cX7_worksSets 59 = .ok (.iload 8, 2) := by decide +kernel
theorem dX7_worksSets_61 : decode cX7_worksSets 61 = .ok (.iconst 0, 1) := by decide +kernel
theorem dX7_worksSets_62 : decode cX7_worksSets 62 = .ok (.iload_n 1, 1) := by decide +kernel
theorem dX7_worksSets_63 : decode cX7_worksSets 63 = .ok (.iconst 1, 1) := by decide +kernel
theorem dX7_worksSets_64 : decode cX7_worksSets 64 = .ok (.iadd, 1) := by decide +kernel
theorem dX7_worksSets_65 : decode cX7_worksSets 65 = .ok (.invokestatic 36, 3) := by decide +kernel
theorem dX7_worksSets_68 : decode cX7_worksSets 68 = .ok (.ifCond .eq 210, 3) := by decide +kernel
theorem dX7_worksSets_71 : decode cX7_worksSets 71 = .ok (.iconst 2, 1) := by decide +kernel
theorem dX7_worksSets_72 : decode cX7_worksSets 72 = .ok (.bipush 8, 2) := by decide +kernel
theorem dX7_worksSets_74 : decode cX7_worksSets 74 = .ok (.iload 7, 2) := by decide +kernel
theorem dX7_worksSets_76 : decode cX7_worksSets 76 = .ok (.imul, 1) := by decide +kernel
theorem dX7_worksSets_77 : decode cX7_worksSets 77 = .ok (.iload 8, 2) := by decide +kernel
theorem dX7_worksSets_79 : decode cX7_worksSets 79 = .ok (.iadd, 1) := by decide +kernel
theorem dX7_worksSets_80 : decode cX7_worksSets 80 = .ok (.imul, 1) := by decide +kernel
theorem dX7_worksSets_81 : decode cX7_worksSets 81 = .ok (.iload 9, 2) := by decide +kernel
theorem dX7_worksSets_83 : decode cX7_worksSets 83 = .ok (.iadd, 1) := by decide +kernel
theorem dX7_worksSets_84 : decode cX7_worksSets 84 = .ok (.istore 10, 2) := by decide +kernel
theorem dX7_worksSets_86 : decode cX7_worksSets 86 = .ok (.iload 9, 2) := by decide +kernel
theorem dX7_worksSets_88 : decode cX7_worksSets 88 = .ok (.ifCond .ne 7, 3) := by decide +kernel
theorem dX7_worksSets_91 : decode cX7_worksSets 91 = .ok (.lload_n 2, 1) := by decide +kernel
theorem dX7_worksSets_92 : decode cX7_worksSets 92 = .ok (.goto 5, 3) := by decide +kernel
theorem dX7_worksSets_95 : decode cX7_worksSets 95 = .ok (.lload 4, 2) := by decide +kernel
theorem dX7_worksSets_97 : decode cX7_worksSets 97 = .ok (.lstore 11, 2) := by decide +kernel
theorem dX7_worksSets_99 : decode cX7_worksSets 99 = .ok (.iload 7, 2) := by decide +kernel
theorem dX7_worksSets_101 : decode cX7_worksSets 101 = .ok (.iload_n 1, 1) := by decide +kernel
theorem dX7_worksSets_102 : decode cX7_worksSets 102 = .ok (.if_icmp .lt 25, 3) := by decide +kernel
theorem dX7_worksSets_105 : decode cX7_worksSets 105 = .ok (.iload 7, 2) := by decide +kernel
theorem dX7_worksSets_107 : decode cX7_worksSets 107 = .ok (.iload 8, 2) := by decide +kernel
theorem dX7_worksSets_109 : decode cX7_worksSets 109 = .ok (.isub, 1) := by decide +kernel
theorem dX7_worksSets_110 : decode cX7_worksSets 110 = .ok (.iconst 2, 1) := by decide +kernel
theorem dX7_worksSets_111 : decode cX7_worksSets 111 = .ok (.if_icmp .lt 16, 3) := by decide +kernel
theorem dX7_worksSets_114 : decode cX7_worksSets 114 = .ok (.aload_n 0, 1) := by decide +kernel
theorem dX7_worksSets_115 : decode cX7_worksSets 115 = .ok (.getfield 23, 3) := by decide +kernel
theorem dX7_worksSets_118 : decode cX7_worksSets 118 = .ok (.iload 10, 2) := by decide +kernel
theorem dX7_worksSets_120 : decode cX7_worksSets 120 = .ok (.ldc2_w 92, 3) := by decide +kernel
theorem dX7_worksSets_123 : decode cX7_worksSets 123 = .ok (.lastore, 1) := by decide +kernel
theorem dX7_worksSets_124 : decode cX7_worksSets 124 = .ok (.goto 148, 3) := by decide +kernel
theorem dX7_worksSets_127 : decode cX7_worksSets 127 = .ok (.iload 8, 2) := by decide +kernel
theorem dX7_worksSets_129 : decode cX7_worksSets 129 = .ok (.iload_n 1, 1) := by decide +kernel
theorem dX7_worksSets_130 : decode cX7_worksSets 130 = .ok (.if_icmp .lt 23, 3) := by decide +kernel
theorem dX7_worksSets_133 : decode cX7_worksSets 133 = .ok (.iload 8, 2) := by decide +kernel
theorem dX7_worksSets_135 : decode cX7_worksSets 135 = .ok (.iload 7, 2) := by decide +kernel
theorem dX7_worksSets_137 : decode cX7_worksSets 137 = .ok (.isub, 1) := by decide +kernel
theorem dX7_worksSets_138 : decode cX7_worksSets 138 = .ok (.iconst 2, 1) := by decide +kernel
theorem dX7_worksSets_139 : decode cX7_worksSets 139 = .ok (.if_icmp .lt 14, 3) := by decide +kernel
theorem dX7_worksSets_142 : decode cX7_worksSets 142 = .ok (.aload_n 0, 1) := by decide +kernel
theorem dX7_worksSets_143 : decode cX7_worksSets 143 = .ok (.getfield 23, 3) := by decide +kernel
theorem dX7_worksSets_146 : decode cX7_worksSets 146 = .ok (.iload 10, 2) := by decide +kernel
theorem dX7_worksSets_148 : decode cX7_worksSets 148 = .ok (.lconst 0, 1) := by decide +kernel
theorem dX7_worksSets_149 : decode cX7_worksSets 149 = .ok (.lastore, 1) := by decide +kernel
theorem dX7_worksSets_150 : decode cX7_worksSets 150 = .ok (.goto 122, 3) := by decide +kernel
theorem dX7_worksSets_153 : decode cX7_worksSets 153 = .ok (.iload 7, 2) := by decide +kernel
theorem dX7_worksSets_155 : decode cX7_worksSets 155 = .ok (.iload_n 1, 1) := by decide +kernel
theorem dX7_worksSets_156 : decode cX7_worksSets 156 = .ok (.if_icmp .ne 27, 3) := by decide +kernel
theorem dX7_worksSets_159 : decode cX7_worksSets 159 = .ok (.iload 8, 2) := by decide +kernel
theorem dX7_worksSets_161 : decode cX7_worksSets 161 = .ok (.iload_n 1, 1) := by decide +kernel
theorem dX7_worksSets_162 : decode cX7_worksSets 162 = .ok (.if_icmp .ne 21, 3) := by decide +kernel
theorem dX7_worksSets_165 : decode cX7_worksSets 165 = .ok (.aload_n 0, 1) := by decide +kernel
theorem dX7_worksSets_166 : decode cX7_worksSets 166 = .ok (.getfield 23, 3) := by decide +kernel
theorem dX7_worksSets_169 : decode cX7_worksSets 169 = .ok (.iload 10, 2) := by decide +kernel
theorem dX7_worksSets_171 : decode cX7_worksSets 171 = .ok (.lload_n 2, 1) := by decide +kernel
theorem dX7_worksSets_172 : decode cX7_worksSets 172 = .ok (.lload 4, 2) := by decide +kernel
theorem dX7_worksSets_174 : decode cX7_worksSets 174 = .ok (.ladd, 1) := by decide +kernel
theorem dX7_worksSets_175 : decode cX7_worksSets 175 = .ok (.ldc2_w 98, 3) := by decide +kernel
theorem dX7_worksSets_178 : decode cX7_worksSets 178 = .ok (.ldiv, 1) := by decide +kernel
theorem dX7_worksSets_179 : decode cX7_worksSets 179 = .ok (.lastore, 1) := by decide +kernel
theorem dX7_worksSets_180 : decode cX7_worksSets 180 = .ok (.goto 92, 3) := by decide +kernel
theorem dX7_worksSets_183 : decode cX7_worksSets 183 = .ok (.iload 7, 2) := by decide +kernel
theorem dX7_worksSets_185 : decode cX7_worksSets 185 = .ok (.iload_n 1, 1) := by decide +kernel
theorem dX7_worksSets_186 : decode cX7_worksSets 186 = .ok (.if_icmp .gt 86, 3) := by decide +kernel
theorem dX7_worksSets_189 : decode cX7_worksSets 189 = .ok (.iload 8, 2) := by decide +kernel
theorem dX7_worksSets_191 : decode cX7_worksSets 191 = .ok (.iload_n 1, 1) := by decide +kernel
theorem dX7_worksSets_192 : decode cX7_worksSets 192 = .ok (.if_icmp .gt 80, 3) := by decide +kernel
theorem dX7_worksSets_195 : decode cX7_worksSets 195 = .ok (.iconst 1, 1) := by decide +kernel
theorem dX7_worksSets_196 : decode cX7_worksSets 196 = .ok (.iload 9, 2) := by decide +kernel
theorem dX7_worksSets_198 : decode cX7_worksSets 198 = .ok (.isub, 1) := by decide +kernel
theorem dX7_worksSets_199 : decode cX7_worksSets 199 = .ok (.istore 13, 2) := by decide +kernel
theorem dX7_worksSets_201 : decode cX7_worksSets 201 = .ok (.aload_n 0, 1) := by decide +kernel
theorem dX7_worksSets_202 : decode cX7_worksSets 202 = .ok (.getfield 23, 3) := by decide +kernel
theorem dX7_worksSets_205 : decode cX7_worksSets 205 = .ok (.iconst 2, 1) := by decide +kernel
theorem dX7_worksSets_206 : decode cX7_worksSets 206 = .ok (.bipush 8, 2) := by decide +kernel
theorem dX7_worksSets_208 : decode cX7_worksSets 208 = .ok (.iload 7, 2) := by decide +kernel
theorem dX7_worksSets_210 : decode cX7_worksSets 210 = .ok (.imul, 1) := by decide +kernel
theorem dX7_worksSets_211 : decode cX7_worksSets 211 = .ok (.bipush 8, 2) := by decide +kernel
theorem dX7_worksSets_213 : decode cX7_worksSets 213 = .ok (.iadd, 1) := by decide +kernel
theorem dX7_worksSets_214 : decode cX7_worksSets 214 = .ok (.iload 8, 2) := by decide +kernel
theorem dX7_worksSets_216 : decode cX7_worksSets 216 = .ok (.iadd, 1) := by decide +kernel
theorem dX7_worksSets_217 : decode cX7_worksSets 217 = .ok (.imul, 1) := by decide +kernel
theorem dX7_worksSets_218 : decode cX7_worksSets 218 = .ok (.iload 13, 2) := by decide +kernel
theorem dX7_worksSets_220 : decode cX7_worksSets 220 = .ok (.iadd, 1) := by decide +kernel
theorem dX7_worksSets_221 : decode cX7_worksSets 221 = .ok (.laload, 1) := by decide +kernel
theorem dX7_worksSets_222 : decode cX7_worksSets 222 = .ok (.lstore 14, 2) := by decide +kernel
theorem dX7_worksSets_224 : decode cX7_worksSets 224 = .ok (.aload_n 0, 1) := by decide +kernel
theorem dX7_worksSets_225 : decode cX7_worksSets 225 = .ok (.getfield 23, 3) := by decide +kernel
theorem dX7_worksSets_228 : decode cX7_worksSets 228 = .ok (.iconst 2, 1) := by decide +kernel
theorem dX7_worksSets_229 : decode cX7_worksSets 229 = .ok (.bipush 8, 2) := by decide +kernel
theorem dX7_worksSets_231 : decode cX7_worksSets 231 = .ok (.iload 7, 2) := by decide +kernel
theorem dX7_worksSets_233 : decode cX7_worksSets 233 = .ok (.imul, 1) := by decide +kernel
theorem dX7_worksSets_234 : decode cX7_worksSets 234 = .ok (.iload 8, 2) := by decide +kernel
theorem dX7_worksSets_236 : decode cX7_worksSets 236 = .ok (.iadd, 1) := by decide +kernel
theorem dX7_worksSets_237 : decode cX7_worksSets 237 = .ok (.iconst 1, 1) := by decide +kernel
theorem dX7_worksSets_238 : decode cX7_worksSets 238 = .ok (.iadd, 1) := by decide +kernel
theorem dX7_worksSets_239 : decode cX7_worksSets 239 = .ok (.imul, 1) := by decide +kernel
theorem dX7_worksSets_240 : decode cX7_worksSets 240 = .ok (.iload 13, 2) := by decide +kernel
theorem dX7_worksSets_242 : decode cX7_worksSets 242 = .ok (.iadd, 1) := by decide +kernel
theorem dX7_worksSets_243 : decode cX7_worksSets 243 = .ok (.laload, 1) := by decide +kernel
theorem dX7_worksSets_244 : decode cX7_worksSets 244 = .ok (.lstore 16, 2) := by decide +kernel
theorem dX7_worksSets_246 : decode cX7_worksSets 246 = .ok (.aload_n 0, 1) := by decide +kernel
theorem dX7_worksSets_247 : decode cX7_worksSets 247 = .ok (.getfield 23, 3) := by decide +kernel
theorem dX7_worksSets_250 : decode cX7_worksSets 250 = .ok (.iload 10, 2) := by decide +kernel
theorem dX7_worksSets_252 : decode cX7_worksSets 252 = .ok (.lload 11, 2) := by decide +kernel
theorem dX7_worksSets_254 : decode cX7_worksSets 254 = .ok (.lload 14, 2) := by decide +kernel
theorem dX7_worksSets_256 : decode cX7_worksSets 256 = .ok (.lmul, 1) := by decide +kernel
theorem dX7_worksSets_257 : decode cX7_worksSets 257 = .ok (.ldc2_w 92, 3) := by decide +kernel
theorem dX7_worksSets_260 : decode cX7_worksSets 260 = .ok (.lload 11, 2) := by decide +kernel
theorem dX7_worksSets_262 : decode cX7_worksSets 262 = .ok (.lsub, 1) := by decide +kernel
theorem dX7_worksSets_263 : decode cX7_worksSets 263 = .ok (.lload 16, 2) := by decide +kernel
theorem dX7_worksSets_265 : decode cX7_worksSets 265 = .ok (.lmul, 1) := by decide +kernel
theorem dX7_worksSets_266 : decode cX7_worksSets 266 = .ok (.ladd, 1) := by decide +kernel
theorem dX7_worksSets_267 : decode cX7_worksSets 267 = .ok (.ldc2_w 92, 3) := by decide +kernel
theorem dX7_worksSets_270 : decode cX7_worksSets 270 = .ok (.ldiv, 1) := by decide +kernel
theorem dX7_worksSets_271 : decode cX7_worksSets 271 = .ok (.lastore, 1) := by decide +kernel
theorem dX7_worksSets_272 : decode cX7_worksSets 272 = .ok (.iinc 9 1, 3) := by decide +kernel
theorem dX7_worksSets_275 : decode cX7_worksSets 275 = .ok (.goto (-222), 3) := by decide +kernel
theorem dX7_worksSets_278 : decode cX7_worksSets 278 = .ok (.iinc 7 1, 3) := by decide +kernel
theorem dX7_worksSets_281 : decode cX7_worksSets 281 = .ok (.goto (-246), 3) := by decide +kernel
theorem dX7_worksSets_284 : decode cX7_worksSets 284 = .ok (.iinc 6 (-1), 3) := by decide +kernel
theorem dX7_worksSets_287 : decode cX7_worksSets 287 = .ok (.goto (-260), 3) := by decide +kernel
theorem dX7_worksSets_290 : decode cX7_worksSets 290 = .ok (.return_, 1) := by decide +kernel
set_option maxRecDepth 20000 in
theorem ggX7_round_X7_in : GoodIn wsX7_round wsX7_in := goodIn_r _ [7] (by decide +kernel) (by decide +kernel)
set_option maxRecDepth 20000 in
theorem gX7_round_X7_in : GoodIn wsX7_round (va_wsS RX7 36 yX7_in wsX7_in) := goodIn_app (goodIn_of _ (by decide +kernel)) ggX7_round_X7_in
set_option maxRecDepth 20000 in
theorem ggX7_round_X7_worksSets : GoodIn wsX7_round wsX7_worksSets := goodIn_r _ [11, 2, 3, 12, 13, 14, 15, 16, 6, 17, 18, 19, 20, 21, 22, 23, 24, 25, 26, 27, 28, 29, 4, 5, 7, 30, 31, 32, 33, 34, 35, 36, 37, 38, 39, 40, 41, 42, 43, 44] (by decide +kernel) (by decide +kernel)
set_option maxRecDepth 20000 in
theorem gX7_round_X7_worksSets : GoodIn wsX7_round (wsV RX7 100 RX7 yX7_worksSets wsX7_worksSets) := goodIn_app (goodIn_of _ (by decide +kernel)) ggX7_round_X7_worksSets
theorem dX7_round_0 : decode cX7_round 0 = .ok (.aload_n 0, 1) := by decide +kernel
theorem dX7_round_1 : decode cX7_round 1 = .ok (.iconst 0, 1) := by decide +kernel
theorem dX7_round_2 : decode cX7_round 2 = .ok (.putfield 32, 3) := by decide +kernel
theorem dX7_round_5 : decode cX7_round 5 = .ok (.iload_n 1, 1) := by decide +kernel
theorem dX7_round_6 : decode cX7_round 6 = .ok (.iconst 0, 1) := by decide +kernel
theorem dX7_round_7 : decode cX7_round 7 = .ok (.aload_n 0, 1) := by decide +kernel
theorem dX7_round_8 : decode cX7_round 8 = .ok (.getfield 7, 3) := by decide +kernel
theorem dX7_round_11 : decode cX7_round 11 = .ok (.iconst 3, 1) := by decide +kernel
theorem dX7_round_12 : decode cX7_round 12 = .ok (.iaload, 1) := by decide +kernel
theorem dX7_round_13 : decode cX7_round 13 = .ok (.invokestatic 36, 3) := by decide +kernel
theorem dX7_round_16 : decode cX7_round 16 = .ok (.ifCond .eq 26, 3) := by decide +kernel
theorem dX7_round_19 : decode cX7_round 19 = .ok (.iload_n 2, 1) := by decide +kernel
theorem dX7_round_20 : decode cX7_round 20 = .ok (.iconst 0, 1) := by decide +kernel
theorem dX7_round_21 : decode cX7_round 21 = .ok (.aload_n 0, 1) := by decide +kernel
theorem dX7_round_22 : decode cX7_round 22 = .ok (.getfield 7, 3) := by decide +kernel
theorem dX7_round_25 : decode cX7_round 25 = .ok (.iconst 3, 1) := by decide +kernel
theorem dX7_round_26 : decode cX7_round 26 = .ok (.iaload, 1) := by decide +kernel
theorem dX7_round_27 : decode cX7_round 27 = .ok (.invokestatic 36, 3) := by decide +kernel
theorem dX7_round_30 : decode cX7_round 30 = .ok (.ifCond .eq 12, 3) := by decide +kernel
theorem dX7_round_33 : decode cX7_round 33 = .ok (.iload_n 3, 1) := by decide +kernel
theorem dX7_round_34 : decode cX7_round 34 = .ok (.iconst 0, 1) := by decide +kernel
theorem dX7_round_35 : decode cX7_round 35 = .ok (.iconst 1, 1) := by decide +kernel
theorem dX7_round_36 : decode cX7_round 36 = .ok (.invokestatic 36, 3) := by decide +kernel
theorem dX7_round_39 : decode cX7_round 39 = .ok (.ifCond .ne 5, 3) := by decide +kernel
theorem dX7_round_42 : decode cX7_round 42 = .ok (.iconst (-1), 1) := by decide +kernel
theorem dX7_round_43 : decode cX7_round 43 = .ok (.ireturn, 1) := by decide +kernel
theorem dX7_round_44 : decode cX7_round 44 = .ok (.aload_n 0, 1) := by decide +kernel
theorem dX7_round_45 : decode cX7_round 45 = .ok (.invokevirtual 100, 3) := by decide +kernel
theorem dX7_round_48 : decode cX7_round 48 = .ok (.aload_n 0, 1) := by decide +kernel
theorem dX7_round_49 : decode cX7_round 49 = .ok (.getfield 23, 3) := by decide +kernel
theorem dX7_round_52 : decode cX7_round 52 = .ok (.iconst 2, 1) := by decide +kernel
theorem dX7_round_53 : decode cX7_round 53 = .ok (.bipush 8, 2) := by decide +kernel
theorem dX7_round_55 : decode cX7_round 55 = .ok (.iload_n 1, 1) := by decide +kernel
theorem dX7_round_56 : decode cX7_round 56 = .ok (.imul, 1) := by decide +kernel
theorem dX7_round_57 : decode cX7_round 57 = .ok (.iload_n 2, 1) := by decide +kernel
theorem dX7_round_58 : decode cX7_round 58 = .ok (.iadd, 1) := by decide +kernel
theorem dX7_round_59 : decode cX7_round 59 = .ok (.imul, 1) := by decide +kernel
theorem dX7_round_60 : decode cX7_round 60 = .ok (.iload_n 3, 1) := by decide +kernel
theorem dX7_round_61 : decode cX7_round 61 = .ok (.iadd, 1) := by decide +kernel
theorem dX7_round_62 : decode cX7_round 62 = .ok (.laload, 1) := by decide +kernel
theorem dX7_round_63 : decode cX7_round 63 = .ok (.l2i, 1) := by decide +kernel
theorem dX7_round_64 : decode cX7_round 64 = .ok (.ireturn, 1) := by decide +kernel
set_option maxRecDepth 20000 in
theorem ggX7_match_X7_in : GoodIn wsX7_match wsX7_in := goodIn_r _ [8] (by decide +kernel) (by decide +kernel)
set_option maxRecDepth 20000 in
theorem gX7_match_X7_in : GoodIn wsX7_match (va_wsS RX7 36 yX7_in wsX7_in) := goodIn_app (goodIn_of _ (by decide +kernel)) ggX7_match_X7_in
set_option maxRecDepth 20000 in
theorem ggX7_match_X7_worksSets : GoodIn wsX7_match wsX7_worksSets := goodIn_r _ [12, 2, 3, 4, 13, 14, 15, 16, 7, 17, 18, 19, 20, 21, 22, 23, 24, 25, 26, 27, 28, 29, 5, 6, 8, 30, 31, 32, 33, 34, 35, 36, 37, 38, 39, 40, 41, 42, 43, 44] (by decide +kernel) (by decide +kernel)
set_option maxRecDepth 20000 in
theorem gX7_match_X7_worksSets : GoodIn wsX7_match (wsV RX7 100 RX7 yX7_worksSets wsX7_worksSets) := goodIn_app (goodIn_of _ (by decide +kernel)) ggX7_match_X7_worksSets
theorem dX7_match_0 : decode cX7_match 0 = .ok (.aload_n 0, 1) := by decide +kernel
theorem dX7_match_1 : decode cX7_match 1 = .ok (.iconst 0, 1) := by decide +kernel
theorem dX7_match_2 : decode cX7_match 2 = .ok (.putfield 32, 3) := by decide +kernel
theorem dX7_match_5 : decode cX7_match 5 = .ok (.aload_n 0, 1) := by decide +kernel
theorem dX7_match_6 : decode cX7_match 6 = .ok (.getfield 7, 3) := by decide +kernel
theorem dX7_match_9 : decode cX7_match 9 = .ok (.iconst 4, 1) := by decide +kernel
theorem dX7_match_10 : decode cX7_match 10 = .ok (.iaload, 1) := by decide +kernel
theorem dX7_match_11 : decode cX7_match 11 = .ok (.istore 4, 2) := by decide +kernel
theorem dX7_match_13 : decode cX7_match 13 = .ok (.iload_n 1, 1) := by decide +kernel
theorem dX7_match_14 : decode cX7_match 14 = .ok (.iconst 0, 1) := by decide +kernel
theorem dX7_match_15 : decode cX7_match 15 = .ok (.iload 4, 2) := by decide +kernel
theorem dX7_match_17 : decode cX7_match 17 = .ok (.invokestatic 36, 3) := by decide +kernel
theorem dX7_match_20 : decode cX7_match 20 = .ok (.ifCond .eq 34, 3) := by decide +kernel
theorem dX7_match_23 : decode cX7_match 23 = .ok (.iload_n 2, 1) := by decide +kernel
theorem dX7_match_24 : decode cX7_match 24 = .ok (.iconst 0, 1) := by decide +kernel
theorem dX7_match_25 : decode cX7_match 25 = .ok (.iload 4, 2) := by decide +kernel
theorem dX7_match_27 : decode cX7_match 27 = .ok (.invokestatic 36, 3) := by decide +kernel
theorem dX7_match_30 : decode cX7_match 30 = .ok (.ifCond .eq 24, 3) := by decide +kernel
theorem dX7_match_33 : decode cX7_match 33 = .ok (.iload_n 1, 1) := by decide +kernel
theorem dX7_match_34 : decode cX7_match 34 = .ok (.iload 4, 2) := by decide +kernel
theorem dX7_match_36 : decode cX7_match 36 = .ok (.if_icmp .ne 9, 3) := by decide +kernel
theorem dX7_match_39 : decode cX7_match 39 = .ok (.iload_n 2, 1) := by decide +kernel
theorem dX7_match_40 : decode cX7_match 40 = .ok (.iload 4, 2) := by decide +kernel
theorem dX7_match_42 : decode cX7_match 42 = .ok (.if_icmp .eq 12, 3) := by decide +kernel
theorem dX7_match_45 : decode cX7_match 45 = .ok (.iload_n 3, 1) := by decide +kernel
theorem dX7_match_46 : decode cX7_match 46 = .ok (.iconst 0, 1) := by decide +kernel
theorem dX7_match_47 : decode cX7_match 47 = .ok (.iconst 1, 1) := by decide +kernel
theorem dX7_match_48 : decode cX7_match 48 = .ok (.invokestatic 36, 3) := by decide +kernel
theorem dX7_match_51 : decode cX7_match 51 = .ok (.ifCond .ne 5, 3) := by decide +kernel
theorem dX7_match_54 : decode cX7_match 54 = .ok (.iconst (-1), 1) := by decide +kernel
theorem dX7_match_55 : decode cX7_match 55 = .ok (.ireturn, 1) := by decide +kernel
theorem dX7_match_56 : decode cX7_match 56 = .ok (.aload_n 0, 1) := by decide +kernel
theorem dX7_match_57 : decode cX7_match 57 = .ok (.invokevirtual 100, 3) := by decide +kernel
theorem dX7_match_60 : decode cX7_match 60 = .ok (.aload_n 0, 1) := by decide +kernel
theorem dX7_match_61 : decode cX7_match 61 = .ok (.getfield 23, 3) := by decide +kernel
theorem dX7_match_64 : decode cX7_match 64 = .ok (.iconst 0, 1) := by decide +kernel
theorem dX7_match_65 : decode cX7_match 65 = .ok (.laload, 1) := by decide +kernel
theorem dX7_match_66 : decode cX7_match 66 = .ok (.lstore 5, 2) := by decide +kernel
theorem dX7_match_68 : decode cX7_match 68 = .ok (.aload_n 0, 1) := by decide +kernel
theorem dX7_match_69 : decode cX7_match 69 = .ok (.getfield 23, 3) := by decide +kernel
theorem dX7_match_72 : decode cX7_match 72 = .ok (.iconst 1, 1) := by decide +kernel
theorem dX7_match_73 : decode cX7_match 73 = .ok (.laload, 1) := by decide +kernel
theorem dX7_match_74 : decode cX7_match 74 = .ok (.lstore 7, 2) := by decide +kernel
theorem dX7_match_76 : decode cX7_match 76 = .ok (.iconst 2, 1) := by decide +kernel
theorem dX7_match_77 : decode cX7_match 77 = .ok (.iload 4, 2) := by decide +kernel
theorem dX7_match_79 : decode cX7_match 79 = .ok (.imul, 1) := by decide +kernel
theorem dX7_match_80 : decode cX7_match 80 = .ok (.iconst 1, 1) := by decide +kernel
theorem dX7_match_81 : decode cX7_match 81 = .ok (.isub, 1) := by decide +kernel
theorem dX7_match_82 : decode cX7_match 82 = .ok (.istore 9, 2) := by decide +kernel
theorem dX7_match_84 : decode cX7_match 84 = .ok (.iload 9, 2) := by decide +kernel
theorem dX7_match_86 : decode cX7_match 86 = .ok (.ifCond .lt 192, 3) := by decide +kernel
theorem dX7_match_89 : decode cX7_match 89 = .ok (.iconst 0, 1) := by decide +kernel
theorem dX7_match_90 : decode cX7_match 90 = .ok (.istore 10, 2) := by decide +kernel
theorem dX7_match_92 : decode cX7_match 92 = .ok (.iload 10, 2) := by decide +kernel
theorem dX7_match_94 : decode cX7_match 94 = .ok (.iload 4, 2) := by decide +kernel
theorem dX7_match_96 : decode cX7_match 96 = .ok (.if_icmp .gt 176, 3) := by decide +kernel
theorem dX7_match_99 : decode cX7_match 99 = .ok (.iload 9, 2) := by decide +kernel
theorem dX7_match_101 : decode cX7_match 101 = .ok (.iload 10, 2) := by decide +kernel
theorem dX7_match_103 : decode cX7_match 103 = .ok (.isub, 1) := by decide +kernel
theorem dX7_match_104 : decode cX7_match 104 = .ok (.istore 11, 2) := by decide +kernel
theorem dX7_match_106 : decode cX7_match 106 = .ok (.iconst 0, 1) := by decide +kernel
theorem dX7_match_107 : decode cX7_match 107 = .ok (.istore 12, 2) := by decide +kernel
theorem dX7_match_109 : decode cX7_match 109 = .ok (.iload 12, 2) := by decide +kernel
theorem dX7_match_111 : decode cX7_match 111 = .ok (.iconst 2, 1) := by decide +kernel
theorem dX7_match_112 : decode cX7_match 112 = .ok (.if_icmp .ge 154, 3) := by decide +kernel
theorem dX7_match_115 : decode cX7_match 115 = .ok (.iload 11, 2) := by decide +kernel
theorem dX7_match_117 : decode cX7_match 117 = .ok (.iconst 0, 1) := by decide +kernel
theorem dX7_match_118 : decode cX7_match 118 = .ok (.iload 4, 2) := by decide +kernel
theorem dX7_match_120 : decode cX7_match 120 = .ok (.invokestatic 36, 3) := by decide +kernel
theorem dX7_match_123 : decode cX7_match 123 = .ok (.ifCond .eq 143, 3) := by decide +kernel
theorem dX7_match_126 : decode cX7_match 126 = .ok (.iconst 2, 1) := by decide +kernel
theorem dX7_match_127 : decode cX7_match 127 = .ok (.bipush 8, 2) := by decide +kernel
theorem dX7_match_129 : decode cX7_match 129 = .ok (.iload 10, 2) := by decide +kernel
theorem dX7_match_131 : decode cX7_match 131 = .ok (.imul, 1) := by decide +kernel
theorem dX7_match_132 : decode cX7_match 132 = .ok (.iload 11, 2) := by decide +kernel
theorem dX7_match_134 : decode cX7_match 134 = .ok (.iadd, 1) := by decide +kernel
theorem dX7_match_135 : decode cX7_match 135 = .ok (.imul, 1) := by decide +kernel
theorem dX7_match_136 : decode cX7_match 136 = .ok (.iload 12, 2) := by decide +kernel
theorem dX7_match_138 : decode cX7_match 138 = .ok (.iadd, 1) := by decide +kernel
theorem dX7_match_139 : decode cX7_match 139 = .ok (.istore 13, 2) := by decide +kernel
theorem dX7_match_141 : decode cX7_match 141 = .ok (.iload 12, 2) := by decide +kernel
theorem dX7_match_143 : decode cX7_match 143 = .ok (.ifCond .ne 8, 3) := by decide +kernel
theorem dX7_match_146 : decode cX7_match 146 = .ok (.lload 5, 2) := by decide +kernel
theorem dX7_match_148 : decode cX7_match 148 = .ok (.goto 5, 3) := by decide +kernel
theorem dX7_match_151 : decode cX7_match 151 = .ok (.lload 7, 2) := by decide +kernel
theorem dX7_match_153 : decode cX7_match 153 = .ok (.lstore 14, 2) := by decide +kernel
theorem dX7_match_155 : decode cX7_match 155 = .ok (.iload 10, 2) := by decide +kernel
theorem dX7_match_157 : decode cX7_match 157 = .ok (.iload 4, 2) := by decide +kernel
theorem dX7_match_159 : decode cX7_match 159 = .ok (.if_icmp .eq 10, 3) := by decide +kernel
theorem dX7_match_162 : decode cX7_match 162 = .ok (.iload 11, 2) := by decide +kernel
theorem dX7_match_164 : decode cX7_match 164 = .ok (.iload 4, 2) := by decide +kernel
theorem dX7_match_166 : decode cX7_match 166 = .ok (.if_icmp .ne 27, 3) := by decide +kernel
theorem dX7_match_169 : decode cX7_match 169 = .ok (.aload_n 0, 1) := by decide +kernel
theorem dX7_match_170 : decode cX7_match 170 = .ok (.getfield 23, 3) := by decide +kernel
theorem dX7_match_173 : decode cX7_match 173 = .ok (.iload 13, 2) := by decide +kernel
theorem dX7_match_175 : decode cX7_match 175 = .ok (.iload 10, 2) := by decide +kernel
theorem dX7_match_177 : decode cX7_match 177 = .ok (.iload 4, 2) := by decide +kernel
theorem dX7_match_179 : decode cX7_match 179 = .ok (.if_icmp .ne 9, 3) := by decide +kernel
theorem dX7_match_182 : decode cX7_match 182 = .ok (.ldc2_w 92, 3) := by decide +kernel
theorem dX7_match_185 : decode cX7_match 185 = .ok (.goto 4, 3) := by decide +kernel
theorem dX7_match_188 : decode cX7_match 188 = .ok (.lconst 0, 1) := by decide +kernel
theorem dX7_match_189 : decode cX7_match 189 = .ok (.lastore, 1) := by decide +kernel
theorem dX7_match_190 : decode cX7_match 190 = .ok (.goto 70, 3) := by decide +kernel
theorem dX7_match_193 : decode cX7_match 193 = .ok (.aload_n 0, 1) := by decide +kernel
theorem dX7_match_194 : decode cX7_match 194 = .ok (.getfield 23, 3) := by decide +kernel
theorem dX7_match_197 : decode cX7_match 197 = .ok (.iload 13, 2) := by decide +kernel
theorem dX7_match_199 : decode cX7_match 199 = .ok (.lload 14, 2) := by decide +kernel
theorem dX7_match_201 : decode cX7_match 201 = .ok (.aload_n 0, 1) := by decide +kernel
theorem dX7_match_202 : decode cX7_match 202 = .ok (.getfield 23, 3) := by decide +kernel
theorem dX7_match_205 : decode cX7_match 205 = .ok (.iconst 2, 1) := by decide +kernel
theorem dX7_match_206 : decode cX7_match 206 = .ok (.bipush 8, 2) := by decide +kernel
theorem dX7_match_208 : decode cX7_match 208 = .ok (.iload 10, 2) := by decide +kernel
theorem dX7_match_210 : decode cX7_match 210 = .ok (.imul, 1) := by decide +kernel
theorem dX7_match_211 : decode cX7_match 211 = .ok (.bipush 8, 2) := by decide +kernel
theorem dX7_match_213 : decode cX7_match 213 = .ok (.iadd, 1) := by decide +kernel
theorem dX7_match_214 : decode cX7_match 214 = .ok (.iload 11, 2) := by decide +kernel
theorem dX7_match_216 : decode cX7_match 216 = .ok (.iadd, 1) := by decide +kernel
theorem dX7_match_217 : decode cX7_match 217 = .ok (.imul, 1) := by decide +kernel
theorem dX7_match_218 : decode cX7_match 218 = .ok (.iconst 1, 1) := by decide +kernel
theorem dX7_match_219 : decode cX7_match 219 = .ok (.iadd, 1) := by decide +kernel
theorem dX7_match_220 : decode cX7_match 220 = .ok (.iload 12, 2) := by decide +kernel
theorem dX7_match_222 : decode cX7_match 222 = .ok (.isub, 1) := by decide +kernel
theorem dX7_match_223 : decode cX7_match 223 = .ok (.laload, 1) := by decide +kernel
theorem dX7_match_224 : decode cX7_match 224 = .ok (.lmul, 1) := by decide +kernel
theorem dX7_match_225 : decode cX7_match 225 = .ok (.ldc2_w 92, 3) := by decide +kernel
theorem dX7_match_228 : decode cX7_match 228 = .ok (.lload 14, 2) := by decide +kernel
theorem dX7_match_230 : decode cX7_match 230 = .ok (.lsub, 1) := by decide +kernel
theorem dX7_match_231 : decode cX7_match 231 = .ok (.aload_n 0, 1) := by decide +kernel
theorem dX7_match_232 : decode cX7_match 232 = .ok (.getfield 23, 3) := by decide +kernel
theorem dX7_match_235 : decode cX7_match 235 = .ok (.iconst 2, 1) := by decide +kernel
theorem dX7_match_236 : decode cX7_match 236 = .ok (.bipush 8, 2) := by decide +kernel
theorem dX7_match_238 : decode cX7_match 238 = .ok (.iload 10, 2) := by decide +kernel
theorem dX7_match_240 : decode cX7_match 240 = .ok (.imul, 1) := by decide +kernel
theorem dX7_match_241 : decode cX7_match 241 = .ok (.iload 11, 2) := by decide +kernel
theorem dX7_match_243 : decode cX7_match 243 = .ok (.iadd, 1) := by decide +kernel
theorem dX7_match_244 : decode cX7_match 244 = .ok (.iconst 1, 1) := by decide +kernel
theorem dX7_match_245 : decode cX7_match 245 = .ok (.iadd, 1) := by decide +kernel
theorem dX7_match_246 : decode cX7_match 246 = .ok (.imul, 1) := by decide +kernel
theorem dX7_match_247 : decode cX7_match 247 = .ok (.iconst 1, 1) := by decide +kernel
theorem dX7_match_248 : decode cX7_match 248 = .ok (.iadd, 1) := by decide +kernel
theorem dX7_match_249 : decode cX7_match 249 = .ok (.iload 12, 2) := by decide +kernel
theorem dX7_match_251 : decode cX7_match 251 = .ok (.isub, 1) := by decide +kernel
theorem dX7_match_252 : decode cX7_match 252 = .ok (.laload, 1) := by decide +kernel
theorem dX7_match_253 : decode cX7_match 253 = .ok (.lmul, 1) := by decide +kernel
theorem dX7_match_254 : decode cX7_match 254 = .ok (.ladd, 1) := by decide +kernel
theorem dX7_match_255 : decode cX7_match 255 = .ok (.ldc2_w 92, 3) := by decide +kernel
theorem dX7_match_258 : decode cX7_match 258 = .ok (.ldiv, 1) := by decide +kernel
theorem dX7_match_259 : decode cX7_match 259 = .ok (.lastore, 1) := by decide +kernel
theorem dX7_match_260 : decode cX7_match 260 = .ok (.iinc 12 1, 3) := by decide +kernel
theorem dX7_match_263 : decode cX7_match 263 = .ok (.goto (-154), 3) := by decide +kernel
theorem dX7_match_266 : decode cX7_match 266 = .ok (.iinc 10 1, 3) := by decide +kernel
theorem dX7_match_269 : decode cX7_match 269 = .ok (.goto (-177), 3) := by decide +kernel
theorem dX7_match_272 : decode cX7_match 272 = .ok (.iinc 9 (-1), 3) := by decide +kernel
theorem dX7_match_275 : decode cX7_match 275 = .ok (.goto (-191), 3) := by decide +kernel
theorem dX7_match_278 : decode cX7_match 278 = .ok (.aload_n 0, 1) := by decide +kernel
theorem dX7_match_279 : decode cX7_match 279 = .ok (.getfield 23, 3) := by decide +kernel
theorem dX7_match_282 : decode cX7_match 282 = .ok (.iconst 2, 1) := by decide +kernel
theorem dX7_match_283 : decode cX7_match 283 = .ok (.bipush 8, 2) := by decide +kernel
theorem dX7_match_285 : decode cX7_match 285 = .ok (.iload_n 1, 1) := by decide +kernel
theorem dX7_match_286 : decode cX7_match 286 = .ok (.imul, 1) := by decide +kernel
theorem dX7_match_287 : decode cX7_match 287 = .ok (.iload_n 2, 1) := by decide +kernel
theorem dX7_match_288 : decode cX7_match 288 = .ok (.iadd, 1) := by decide +kernel
theorem dX7_match_289 : decode cX7_match 289 = .ok (.imul, 1) := by decide +kernel
theorem dX7_match_290 : decode cX7_match 290 = .ok (.iload_n 3, 1) := by decide +kernel
theorem dX7_match_291 : decode cX7_match 291 = .ok (.iadd, 1) := by decide +kernel
theorem dX7_match_292 : decode cX7_match 292 = .ok (.laload, 1) := by decide +kernel
theorem dX7_match_293 : decode cX7_match 293 = .ok (.l2i, 1) := by decide +kernel
theorem dX7_match_294 : decode cX7_match 294 = .ok (.ireturn, 1) := by decide +kernel
theorem dX7_beginsGame_0 : decode cX7_beginsGame 0 = .ok (.aload_n 0, 1) := by decide +kernel
theorem dX7_beginsGame_1 : decode cX7_beginsGame 1 = .ok (.getfield 26, 3) := by decide +kernel
theorem dX7_beginsGame_4 : decode cX7_beginsGame 4 = .ok (.iconst 0, 1) := by decide +kernel
theorem dX7_beginsGame_5 : decode cX7_beginsGame 5 = .ok (.aload_n 0, 1) := by decide +kernel
theorem dX7_beginsGame_6 : decode cX7_beginsGame 6 = .ok (.getfield 26, 3) := by decide +kernel
theorem dX7_beginsGame_9 : decode cX7_beginsGame 9 = .ok (.bipush 6, 2) := by decide +kernel
theorem dX7_beginsGame_11 : decode cX7_beginsGame 11 = .ok (.iaload, 1) := by decide +kernel
theorem dX7_beginsGame_12 : decode cX7_beginsGame 12 = .ok (.ifCond .ne 12, 3) := by decide +kernel
theorem dX7_beginsGame_15 : decode cX7_beginsGame 15 = .ok (.aload_n 0, 1) := by decide +kernel
theorem dX7_beginsGame_16 : decode cX7_beginsGame 16 = .ok (.getfield 7, 3) := by decide +kernel
theorem dX7_beginsGame_19 : decode cX7_beginsGame 19 = .ok (.iconst 5, 1) := by decide +kernel
theorem dX7_beginsGame_20 : decode cX7_beginsGame 20 = .ok (.iaload, 1) := by decide +kernel
theorem dX7_beginsGame_21 : decode cX7_beginsGame 21 = .ok (.goto 4, 3) := by decide +kernel
theorem dX7_beginsGame_24 : decode cX7_beginsGame 24 = .ok (.iconst 0, 1) := by decide +kernel
theorem dX7_beginsGame_25 : decode cX7_beginsGame 25 = .ok (.iastore, 1) := by decide +kernel
theorem dX7_beginsGame_26 : decode cX7_beginsGame 26 = .ok (.aload_n 0, 1) := by decide +kernel
theorem dX7_beginsGame_27 : decode cX7_beginsGame 27 = .ok (.getfield 26, 3) := by decide +kernel
theorem dX7_beginsGame_30 : decode cX7_beginsGame 30 = .ok (.iconst 1, 1) := by decide +kernel
theorem dX7_beginsGame_31 : decode cX7_beginsGame 31 = .ok (.iconst 0, 1) := by decide +kernel
theorem dX7_beginsGame_32 : decode cX7_beginsGame 32 = .ok (.iastore, 1) := by decide +kernel
theorem dX7_beginsGame_33 : decode cX7_beginsGame 33 = .ok (.return_, 1) := by decide +kernel
set_option maxRecDepth 20000 in
theorem ggX7_winsGame_X7_beginsGame : GoodIn wsX7_winsGame wsX7_beginsGame := goodIn_r _ [8, 2, 1, 9, 10, 11, 12, 13, 14, 15, 16, 17, 18, 19] (by decide +kernel) (by decide +kernel)
set_option maxRecDepth 20000 in
theorem gX7_winsGame_X7_beginsGame : GoodIn wsX7_winsGame (wsV RX7 106 RX7 yX7_beginsGame wsX7_beginsGame) := goodIn_app (goodIn_of _ (by decide +kernel)) ggX7_winsGame_X7_beginsGame
theorem dX7_winsGame_0 : decode cX7_winsGame 0 = .ok (.aload_n 0, 1) := by decide +kernel
theorem dX7_winsGame_1 : decode cX7_winsGame 1 = .ok (.getfield 7, 3) := by decide +kernel
theorem dX7_winsGame_4 : decode cX7_winsGame 4 = .ok (.iconst 3, 1) := by decide +kernel
theorem dX7_winsGame_5 : decode cX7_winsGame 5 = .ok (.iaload, 1) := by decide +kernel
theorem dX7_winsGame_6 : decode cX7_winsGame 6 = .ok (.istore_n 2, 1) := by decide +kernel
theorem dX7_winsGame_7 : decode cX7_winsGame 7 = .ok (.aload_n 0, 1) := by decide +kernel
theorem dX7_winsGame_8 : decode cX7_winsGame 8 = .ok (.getfield 26, 3) := by decide +kernel
theorem dX7_winsGame_11 : decode cX7_winsGame 11 = .ok (.iconst 2, 1) := by decide +kernel
theorem dX7_winsGame_12 : decode cX7_winsGame 12 = .ok (.iload_n 1, 1) := by decide +kernel
theorem dX7_winsGame_13 : decode cX7_winsGame 13 = .ok (.iadd, 1) := by decide +kernel
theorem dX7_winsGame_14 : decode cX7_winsGame 14 = .ok (.iaload, 1) := by decide +kernel
theorem dX7_winsGame_15 : decode cX7_winsGame 15 = .ok (.iconst 1, 1) := by decide +kernel
theorem dX7_winsGame_16 : decode cX7_winsGame 16 = .ok (.iadd, 1) := by decide +kernel
theorem dX7_winsGame_17 : decode cX7_winsGame 17 = .ok (.istore_n 3, 1) := by decide +kernel
theorem dX7_winsGame_18 : decode cX7_winsGame 18 = .ok (.aload_n 0, 1) := by decide +kernel
theorem dX7_winsGame_19 : decode cX7_winsGame 19 = .ok (.getfield 26, 3) := by decide +kernel
theorem dX7_winsGame_22 : decode cX7_winsGame 22 = .ok (.iconst 3, 1) := by decide +kernel
theorem dX7_winsGame_23 : decode cX7_winsGame 23 = .ok (.iload_n 1, 1) := by decide +kernel
theorem dX7_winsGame_24 : decode cX7_winsGame 24 = .ok (.isub, 1) := by decide +kernel
theorem dX7_winsGame_25 : decode cX7_winsGame 25 = .ok (.iaload, 1) := by decide +kernel
theorem dX7_winsGame_26 : decode cX7_winsGame 26 = .ok (.istore 4, 2) := by decide +kernel
theorem dX7_winsGame_28 : decode cX7_winsGame 28 = .ok (.aload_n 0, 1) := by decide +kernel
theorem dX7_winsGame_29 : decode cX7_winsGame 29 = .ok (.getfield 26, 3) := by decide +kernel
theorem dX7_winsGame_32 : decode cX7_winsGame 32 = .ok (.iconst 2, 1) := by decide +kernel
theorem dX7_winsGame_33 : decode cX7_winsGame 33 = .ok (.iload_n 1, 1) := by decide +kernel
theorem dX7_winsGame_34 : decode cX7_winsGame 34 = .ok (.iadd, 1) := by decide +kernel
theorem dX7_winsGame_35 : decode cX7_winsGame 35 = .ok (.iload_n 3, 1) := by decide +kernel
theorem dX7_winsGame_36 : decode cX7_winsGame 36 = .ok (.iastore, 1) := by decide +kernel
theorem dX7_winsGame_37 : decode cX7_winsGame 37 = .ok (.aload_n 0, 1) := by decide +kernel
theorem dX7_winsGame_38 : decode cX7_winsGame 38 = .ok (.getfield 26, 3) := by decide +kernel
theorem dX7_winsGame_41 : decode cX7_winsGame 41 = .ok (.bipush 6, 2) := by decide +kernel
theorem dX7_winsGame_43 : decode cX7_winsGame 43 = .ok (.iconst 1, 1) := by decide +kernel
theorem dX7_winsGame_44 : decode cX7_winsGame 44 = .ok (.aload_n 0, 1) := by decide +kernel
theorem dX7_winsGame_45 : decode cX7_winsGame 45 = .ok (.getfield 26, 3) := by decide +kernel
theorem dX7_winsGame_48 : decode cX7_winsGame 48 = .ok (.bipush 6, 2) := by decide +kernel
theorem dX7_winsGame_50 : decode cX7_winsGame 50 = .ok (.iaload, 1) := by decide +kernel
theorem dX7_winsGame_51 : decode cX7_winsGame 51 = .ok (.isub, 1) := by decide +kernel
theorem dX7_winsGame_52 : decode cX7_winsGame 52 = .ok (.iastore, 1) := by decide +kernel
theorem dX7_winsGame_53 : decode cX7_winsGame 53 = .ok (.iload_n 3, 1) := by decide +kernel
theorem dX7_winsGame_54 : decode cX7_winsGame 54 = .ok (.iload_n 2, 1) := by decide +kernel
theorem dX7_winsGame_55 : decode cX7_winsGame 55 = .ok (.if_icmp .lt 11, 3) := by decide +kernel
theorem dX7_winsGame_58 : decode cX7_winsGame 58 = .ok (.iload_n 3, 1) := by decide +kernel
theorem dX7_winsGame_59 : decode cX7_winsGame 59 = .ok (.iload 4, 2) := by decide +kernel
theorem dX7_winsGame_61 : decode cX7_winsGame 61 = .ok (.isub, 1) := by decide +kernel
theorem dX7_winsGame_62 : decode cX7_winsGame 62 = .ok (.iconst 2, 1) := by decide +kernel
theorem dX7_winsGame_63 : decode cX7_winsGame 63 = .ok (.if_icmp .ge 16, 3) := by decide +kernel
theorem dX7_winsGame_66 : decode cX7_winsGame 66 = .ok (.iload_n 3, 1) := by decide +kernel
theorem dX7_winsGame_67 : decode cX7_winsGame 67 = .ok (.iload_n 2, 1) := by decide +kernel
theorem dX7_winsGame_68 : decode cX7_winsGame 68 = .ok (.iconst 1, 1) := by decide +kernel
theorem dX7_winsGame_69 : decode cX7_winsGame 69 = .ok (.iadd, 1) := by decide +kernel
theorem dX7_winsGame_70 : decode cX7_winsGame 70 = .ok (.if_icmp .ne 86, 3) := by decide +kernel
theorem dX7_winsGame_73 : decode cX7_winsGame 73 = .ok (.iload 4, 2) := by decide +kernel
theorem dX7_winsGame_75 : decode cX7_winsGame 75 = .ok (.iload_n 2, 1) := by decide +kernel
theorem dX7_winsGame_76 : decode cX7_winsGame 76 = .ok (.if_icmp .ne 80, 3) := by decide +kernel
theorem dX7_winsGame_79 : decode cX7_winsGame 79 = .ok (.aload_n 0, 1) := by decide +kernel
theorem dX7_winsGame_80 : decode cX7_winsGame 80 = .ok (.getfield 26, 3) := by decide +kernel
theorem dX7_winsGame_83 : decode cX7_winsGame 83 = .ok (.iconst 2, 1) := by decide +kernel
theorem dX7_winsGame_84 : decode cX7_winsGame 84 = .ok (.iconst 0, 1) := by decide +kernel
theorem dX7_winsGame_85 : decode cX7_winsGame 85 = .ok (.iastore, 1) := by decide +kernel
theorem dX7_winsGame_86 : decode cX7_winsGame 86 = .ok (.aload_n 0, 1) := by decide +kernel
theorem dX7_winsGame_87 : decode cX7_winsGame 87 = .ok (.getfield 26, 3) := by decide +kernel
theorem dX7_winsGame_90 : decode cX7_winsGame 90 = .ok (.iconst 3, 1) := by decide +kernel
theorem dX7_winsGame_91 : decode cX7_winsGame 91 = .ok (.iconst 0, 1) := by decide +kernel
theorem dX7_winsGame_92 : decode cX7_winsGame 92 = .ok (.iastore, 1) := by decide +kernel
theorem dX7_winsGame_93 : decode cX7_winsGame 93 = .ok (.aload_n 0, 1) := by decide +kernel
theorem dX7_winsGame_94 : decode cX7_winsGame 94 = .ok (.getfield 26, 3) := by decide +kernel
theorem dX7_winsGame_97 : decode cX7_winsGame 97 = .ok (.iconst 4, 1) := by decide +kernel
theorem dX7_winsGame_98 : decode cX7_winsGame 98 = .ok (.iload_n 1, 1) := by decide +kernel
theorem dX7_winsGame_99 : decode cX7_winsGame 99 = .ok (.iadd, 1) := by decide +kernel
theorem dX7_winsGame_100 : decode cX7_winsGame 100 = .ok (.dup2, 1) := by decide +kernel
theorem dX7_winsGame_101 : decode cX7_winsGame 101 = .ok (.iaload, 1) := by decide +kernel
theorem dX7_winsGame_102 : decode cX7_winsGame 102 = .ok (.iconst 1, 1) := by decide +kernel
theorem dX7_winsGame_103 : decode cX7_winsGame 103 = .ok (.iadd, 1) := by decide +kernel

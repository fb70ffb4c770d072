theorem dX10_goOn_306 : decode cX10_goOn 306 = .ok (.aload_n 0, 1) := by decide +kernel
theorem dX10_goOn_307 : decode cX10_goOn 307 = .ok (.getfield 99, 3) := by decide +kernel
theorem dX10_goOn_310 : decode cX10_goOn 310 = .ok (.bipush 8, 2) := by decide +kernel
theorem dX10_goOn_312 : decode cX10_goOn 312 = .ok (.iload 8, 2) := by decide +kernel
theorem dX10_goOn_314 : decode cX10_goOn 314 = .ok (.imul, 1) := by decide +kernel
theorem dX10_goOn_315 : decode cX10_goOn 315 = .ok (.iload 7, 2) := by decide +kernel
theorem dX10_goOn_317 : decode cX10_goOn 317 = .ok (.iadd, 1) := by decide +kernel
theorem dX10_goOn_318 : decode cX10_goOn 318 = .ok (.iaload, 1) := by decide +kernel
theorem dX10_goOn_319 : decode cX10_goOn 319 = .ok (.aload_n 0, 1) := by decide +kernel
theorem dX10_goOn_320 : decode cX10_goOn 320 = .ok (.getfield 93, 3) := by decide +kernel
theorem dX10_goOn_323 : decode cX10_goOn 323 = .ok (.iload 4, 2) := by decide +kernel
theorem dX10_goOn_325 : decode cX10_goOn 325 = .ok (.iaload, 1) := by decide +kernel
theorem dX10_goOn_326 : decode cX10_goOn 326 = .ok (.invokestatic 194, 3) := by decide +kernel
theorem dX10_goOn_329 : decode cX10_goOn 329 = .ok (.iastore, 1) := by decide +kernel
theorem dX10_goOn_330 : decode cX10_goOn 330 = .ok (.iinc 7 1, 3) := by decide +kernel
theorem dX10_goOn_333 : decode cX10_goOn 333 = .ok (.goto (-244), 3) := by decide +kernel
theorem dX10_goOn_336 : decode cX10_goOn 336 = .ok (.iinc 4 1, 3) := by decide +kernel
theorem dX10_goOn_339 : decode cX10_goOn 339 = .ok (.goto (-303), 3) := by decide +kernel
theorem dX10_goOn_342 : decode cX10_goOn 342 = .ok (.iconst 0, 1) := by decide +kernel
theorem dX10_goOn_343 : decode cX10_goOn 343 = .ok (.istore 4, 2) := by decide +kernel
theorem dX10_goOn_345 : decode cX10_goOn 345 = .ok (.iload 4, 2) := by decide +kernel
theorem dX10_goOn_347 : decode cX10_goOn 347 = .ok (.sipush 4608, 3) := by decide +kernel
theorem dX10_goOn_350 : decode cX10_goOn 350 = .ok (.if_icmp .ge 37, 3) := by decide +kernel
theorem dX10_goOn_353 : decode cX10_goOn 353 = .ok (.aload_n 0, 1) := by decide +kernel
theorem dX10_goOn_354 : decode cX10_goOn 354 = .ok (.getfield 90, 3) := by decide +kernel
theorem dX10_goOn_357 : decode cX10_goOn 357 = .ok (.iload 4, 2) := by decide +kernel
theorem dX10_goOn_359 : decode cX10_goOn 359 = .ok (.aload_n 0, 1) := by decide +kernel
theorem dX10_goOn_360 : decode cX10_goOn 360 = .ok (.getfield 96, 3) := by decide +kernel
theorem dX10_goOn_363 : decode cX10_goOn 363 = .ok (.iload 4, 2) := by decide +kernel
theorem dX10_goOn_365 : decode cX10_goOn 365 = .ok (.iaload, 1) := by decide +kernel
theorem dX10_goOn_366 : decode cX10_goOn 366 = .ok (.iastore, 1) := by decide +kernel
theorem dX10_goOn_367 : decode cX10_goOn 367 = .ok (.aload_n 0, 1) := by decide +kernel
theorem dX10_goOn_368 : decode cX10_goOn 368 = .ok (.getfield 93, 3) := by decide +kernel
theorem dX10_goOn_371 : decode cX10_goOn 371 = .ok (.iload 4, 2) := by decide +kernel
theorem dX10_goOn_373 : decode cX10_goOn 373 = .ok (.aload_n 0, 1) := by decide +kernel
theorem dX10_goOn_374 : decode cX10_goOn 374 = .ok (.getfield 99, 3) := by decide +kernel
theorem dX10_goOn_377 : decode cX10_goOn 377 = .ok (.iload 4, 2) := by decide +kernel
theorem dX10_goOn_379 : decode cX10_goOn 379 = .ok (.iaload, 1) := by decide +kernel
theorem dX10_goOn_380 : decode cX10_goOn 380 = .ok (.iastore, 1) := by decide +kernel
theorem dX10_goOn_381 : decode cX10_goOn 381 = .ok (.iinc 4 1, 3) := by decide +kernel
theorem dX10_goOn_384 : decode cX10_goOn 384 = .ok (.goto (-39), 3) := by decide +kernel
theorem dX10_goOn_387 : decode cX10_goOn 387 = .ok (.return_, 1) := by decide +kernel
set_option maxRecDepth 20000 in
theorem ggX10_judged_X10_findWays : GoodIn wsX10_judged wsX10_findWays := goodIn_r _ [7, 8, 9, 10, 11, 12, 13, 14, 1, 2, 15, 16, 17, 6, 18, 19, 20, 21, 22, 23, 24, 25, 26, 27, 28, 29, 30, 31, 32, 33, 34, 35, 36, 37, 38, 39, 40, 41, 42, 43, 44, 45, 46, 47, 48, 49, 50, 51, 52, 53, 54, 55, 56, 57, 58, 59, 60, 61, 62, 63, 64, 65, 66, 67, 68, 69, 70, 71, 72, 73, 74, 75, 76, 77, 78, 79, 80, 81, 82, 83, 84, 85, 86] (by decide +kernel) (by decide +kernel)
set_option maxRecDepth 20000 in
theorem gX10_judged_X10_findWays : GoodIn wsX10_judged (wsV RX10 197 RX10 yX10_findWays wsX10_findWays) := goodIn_app (goodIn_of _ (by decide +kernel)) ggX10_judged_X10_findWays
theorem dX10_judged_0 : decode cX10_judged 0 = .ok (.aload_n 0, 1) := by decide +kernel
theorem dX10_judged_1 : decode cX10_judged 1 = .ok (.iload_n 1, 1) := by decide +kernel
theorem dX10_judged_2 : decode cX10_judged 2 = .ok (.invokevirtual 197, 3) := by decide +kernel
theorem dX10_judged_5 : decode cX10_judged 5 = .ok (.aload_n 0, 1) := by decide +kernel
theorem dX10_judged_6 : decode cX10_judged 6 = .ok (.getfield 188, 3) := by decide +kernel
theorem dX10_judged_9 : decode cX10_judged 9 = .ok (.ifCond .le 14, 3) := by decide +kernel
theorem dX10_judged_12 : decode cX10_judged 12 = .ok (.aload_n 0, 1) := by decide +kernel
theorem dX10_judged_13 : decode cX10_judged 13 = .ok (.getfield 191, 3) := by decide +kernel
theorem dX10_judged_16 : decode cX10_judged 16 = .ok (.ifCond .ne 7, 3) := by decide +kernel
theorem dX10_judged_19 : decode cX10_judged 19 = .ok (.iconst 0, 1) := by decide +kernel
theorem dX10_judged_20 : decode cX10_judged 20 = .ok (.goto 22, 3) := by decide +kernel
theorem dX10_judged_23 : decode cX10_judged 23 = .ok (.aload_n 0, 1) := by decide +kernel
theorem dX10_judged_24 : decode cX10_judged 24 = .ok (.getfield 188, 3) := by decide +kernel
theorem dX10_judged_27 : decode cX10_judged 27 = .ok (.ifCond .ne 14, 3) := by decide +kernel
theorem dX10_judged_30 : decode cX10_judged 30 = .ok (.aload_n 0, 1) := by decide +kernel
theorem dX10_judged_31 : decode cX10_judged 31 = .ok (.getfield 191, 3) := by decide +kernel
theorem dX10_judged_34 : decode cX10_judged 34 = .ok (.ifCond .le 7, 3) := by decide +kernel
theorem dX10_judged_37 : decode cX10_judged 37 = .ok (.iconst 2, 1) := by decide +kernel
theorem dX10_judged_38 : decode cX10_judged 38 = .ok (.goto 4, 3) := by decide +kernel
theorem dX10_judged_41 : decode cX10_judged 41 = .ok (.iconst 1, 1) := by decide +kernel
theorem dX10_judged_42 : decode cX10_judged 42 = .ok (.ireturn, 1) := by decide +kernel
set_option maxRecDepth 20000 in
theorem ggX10_judge_X10_isFlight : GoodIn wsX10_judge wsX10_isFlight := goodIn_r _ [5, 6, 7, 8, 4, 9, 53, 54, 55, 56, 57, 58, 59, 60, 61, 62, 63, 64, 65, 66, 67, 68, 69, 70, 71, 72, 73, 74, 75, 76, 77, 78, 79, 80, 81, 82, 83, 84, 85, 86, 87, 88, 89, 90, 91, 92, 93, 94, 95] (by decide +kernel) (by decide +kernel)
set_option maxRecDepth 20000 in
theorem gX10_judge_X10_isFlight : GoodIn wsX10_judge (wsV RX10 152 RX10 yX10_isFlight wsX10_isFlight) := goodIn_app (goodIn_of _ (by decide +kernel)) ggX10_judge_X10_isFlight
set_option maxRecDepth 20000 in
theorem ggX10_judge_X10_judged : GoodIn wsX10_judge wsX10_judged := goodIn_r _ [13, 14, 15, 16, 17, 18, 4, 19, 20, 21, 22, 23, 24, 25, 26, 27, 28, 29, 30, 31, 32, 33, 34, 35, 36, 37, 38, 39, 40, 41, 42, 43, 44, 45, 46, 47, 48, 7, 8, 9, 49, 50, 51, 52, 53, 54, 55, 56, 57, 58, 59, 60, 61, 62, 63, 64, 65, 66, 67, 68, 69, 70, 71, 72, 73, 74, 75, 76, 77, 78, 79, 80, 81, 82, 83, 84, 85, 86, 87, 88, 89, 90, 91, 92, 93, 94, 95] (by decide +kernel) (by decide +kernel)
set_option maxRecDepth 20000 in
theorem gX10_judge_X10_judged : GoodIn wsX10_judge (wsV RX10 200 RX10 yX10_judged wsX10_judged) := goodIn_app (goodIn_of _ (by decide +kernel)) ggX10_judge_X10_judged
theorem dX10_judge_0 : decode cX10_judge 0 = .ok (.aload_n 0, 1) := by decide +kernel
theorem dX10_judge_1 : decode cX10_judge 1 = .ok (.iload_n 1, 1) := by decide +kernel
theorem dX10_judge_2 : decode cX10_judge 2 = .ok (.invokevirtual 152, 3) := by decide +kernel
theorem dX10_judge_5 : decode cX10_judge 5 = .ok (.ifCond .eq 11, 3) := by decide +kernel
theorem dX10_judge_8 : decode cX10_judge 8 = .ok (.aload_n 0, 1) := by decide +kernel
theorem dX10_judge_9 : decode cX10_judge 9 = .ok (.iload_n 1, 1) := by decide +kernel
theorem dX10_judge_10 : decode cX10_judge 10 = .ok (.invokevirtual 200, 3) := by decide +kernel
theorem dX10_judge_13 : decode cX10_judge 13 = .ok (.goto 5, 3) := by decide +kernel
theorem dX10_judge_16 : decode cX10_judge 16 = .ok (.bipush (-2), 2) := by decide +kernel
theorem dX10_judge_18 : decode cX10_judge 18 = .ok (.ireturn, 1) := by decide +kernel
set_option maxRecDepth 20000 in
theorem ggX10_ways_X10_isFlight : GoodIn wsX10_ways wsX10_isFlight := goodIn_r _ [7, 8, 9, 10, 6, 11, 49, 50, 51, 52, 53, 54, 55, 56, 57, 58, 59, 60, 61, 62, 63, 64, 65, 66, 67, 68, 69, 70, 71, 72, 73, 74, 75, 76, 77, 78, 79, 80, 81, 82, 83, 84, 85, 86, 87, 88, 89, 90, 91] (by decide +kernel) (by decide +kernel)
set_option maxRecDepth 20000 in
theorem gX10_ways_X10_isFlight : GoodIn wsX10_ways (wsV RX10 152 RX10 yX10_isFlight wsX10_isFlight) := goodIn_app (goodIn_of _ (by decide +kernel)) ggX10_ways_X10_isFlight
set_option maxRecDepth 20000 in
theorem ggX10_ways_X10_findWays : GoodIn wsX10_ways wsX10_findWays := goodIn_r _ [15, 16, 17, 18, 19, 20, 21, 22, 2, 1, 23, 24, 25, 6, 26, 27, 28, 29, 30, 31, 32, 33, 34, 35, 36, 37, 38, 39, 40, 41, 42, 43, 44, 9, 10, 11, 45, 46, 47, 48, 49, 50, 51, 52, 53, 54, 55, 56, 57, 58, 59, 60, 61, 62, 63, 64, 65, 66, 67, 68, 69, 70, 71, 72, 73, 74, 75, 76, 77, 78, 79, 80, 81, 82, 83, 84, 85, 86, 87, 88, 89, 90, 91] (by decide +kernel) (by decide +kernel)
set_option maxRecDepth 20000 in
theorem gX10_ways_X10_findWays : GoodIn wsX10_ways (wsV RX10 197 RX10 yX10_findWays wsX10_findWays) := goodIn_app (goodIn_of _ (by decide +kernel)) ggX10_ways_X10_findWays
set_option maxRecDepth 20000 in
theorem ggX10_ways_X10_sum : GoodIn wsX10_ways wsX10_sum := goodIn_r _ [47, 48] (by decide +kernel) (by decide +kernel)
set_option maxRecDepth 20000 in
theorem gX10_ways_X10_sum : GoodIn wsX10_ways (va_wsS RX10 194 yX10_sum wsX10_sum) := goodIn_app (goodIn_of _ (by decide +kernel)) ggX10_ways_X10_sum
theorem dX10_ways_0 : decode cX10_ways 0 = .ok (.aload_n 0, 1) := by decide +kernel
theorem dX10_ways_1 : decode cX10_ways 1 = .ok (.iload_n 1, 1) := by decide +kernel
theorem dX10_ways_2 : decode cX10_ways 2 = .ok (.invokevirtual 152, 3) := by decide +kernel
theorem dX10_ways_5 : decode cX10_ways 5 = .ok (.ifCond .ne 6, 3) := by decide +kernel
theorem dX10_ways_8 : decode cX10_ways 8 = .ok (.bipush (-2), 2) := by decide +kernel
theorem dX10_ways_10 : decode cX10_ways 10 = .ok (.ireturn, 1) := by decide +kernel
theorem dX10_ways_11 : decode cX10_ways 11 = .ok (.aload_n 0, 1) := by decide +kernel
theorem dX10_ways_12 : decode cX10_ways 12 = .ok (.iload_n 1, 1) := by decide +kernel
theorem dX10_ways_13 : decode cX10_ways 13 = .ok (.invokevirtual 197, 3) := by decide +kernel
theorem dX10_ways_16 : decode cX10_ways 16 = .ok (.iload_n 2, 1) := by decide +kernel
theorem dX10_ways_17 : decode cX10_ways 17 = .ok (.ifCond .eq 10, 3) := by decide +kernel
theorem dX10_ways_20 : decode cX10_ways 20 = .ok (.aload_n 0, 1) := by decide +kernel
theorem dX10_ways_21 : decode cX10_ways 21 = .ok (.getfield 191, 3) := by decide +kernel
theorem dX10_ways_24 : decode cX10_ways 24 = .ok (.goto 14, 3) := by decide +kernel
theorem dX10_ways_27 : decode cX10_ways 27 = .ok (.aload_n 0, 1) := by decide +kernel
theorem dX10_ways_28 : decode cX10_ways 28 = .ok (.getfield 188, 3) := by decide +kernel
theorem dX10_ways_31 : decode cX10_ways 31 = .ok (.aload_n 0, 1) := by decide +kernel
theorem dX10_ways_32 : decode cX10_ways 32 = .ok (.getfield 191, 3) := by decide +kernel
theorem dX10_ways_35 : decode cX10_ways 35 = .ok (.invokestatic 194, 3) := by decide +kernel
theorem dX10_ways_38 : decode cX10_ways 38 = .ok (.ireturn, 1) := by decide +kernel
set_option maxRecDepth 20000 in
theorem ggX10_chaser_X10_isCell : GoodIn wsX10_chaser wsX10_isCell := goodIn_r _ [10, 11, 12, 13, 14, 9, 15, 16, 17, 18, 19, 20, 21, 22, 23, 24, 25, 26, 27, 28, 29, 30, 31, 32, 33, 34, 35, 36, 37, 38, 39, 40, 41, 42, 43, 44, 45, 46, 47, 48, 49, 50, 51, 52, 53, 54, 55, 56, 57, 58] (by decide +kernel) (by decide +kernel)
set_option maxRecDepth 20000 in
theorem gX10_chaser_X10_isCell : GoodIn wsX10_chaser (wsV RX10 118 RX10 yX10_isCell wsX10_isCell) := goodIn_app (goodIn_of _ (by decide +kernel)) ggX10_chaser_X10_isCell
set_option maxRecDepth 20000 in
theorem ggX10_chaser_X10_in : GoodIn wsX10_chaser wsX10_in := goodIn_r _ [15] (by decide +kernel) (by decide +kernel)
set_option maxRecDepth 20000 in
theorem gX10_chaser_X10_in : GoodIn wsX10_chaser (va_wsS RX10 108 yX10_in wsX10_in) := goodIn_app (goodIn_of _ (by decide +kernel)) ggX10_chaser_X10_in
theorem dX10_chaser_0 : decode cX10_chaser 0 = .ok (.aload_n 0, 1) := by decide +kernel
theorem dX10_chaser_1 : decode cX10_chaser 1 = .ok (.iload_n 1, 1) := by decide +kernel
theorem dX10_chaser_2 : decode cX10_chaser 2 = .ok (.iload_n 2, 1) := by decide +kernel
theorem dX10_chaser_3 : decode cX10_chaser 3 = .ok (.invokevirtual 118, 3) := by decide +kernel
theorem dX10_chaser_6 : decode cX10_chaser 6 = .ok (.ifCond .eq 12, 3) := by decide +kernel
theorem dX10_chaser_9 : decode cX10_chaser 9 = .ok (.iload_n 3, 1) := by decide +kernel
theorem dX10_chaser_10 : decode cX10_chaser 10 = .ok (.iconst 1, 1) := by decide +kernel
theorem dX10_chaser_11 : decode cX10_chaser 11 = .ok (.iconst 5, 1) := by decide +kernel
theorem dX10_chaser_12 : decode cX10_chaser 12 = .ok (.invokestatic 108, 3) := by decide +kernel
theorem dX10_chaser_15 : decode cX10_chaser 15 = .ok (.ifCond .ne 6, 3) := by decide +kernel
theorem dX10_chaser_18 : decode cX10_chaser 18 = .ok (.bipush (-2), 2) := by decide +kernel
theorem dX10_chaser_20 : decode cX10_chaser 20 = .ok (.ireturn, 1) := by decide +kernel
theorem dX10_chaser_21 : decode cX10_chaser 21 = .ok (.aload_n 0, 1) := by decide +kernel
theorem dX10_chaser_22 : decode cX10_chaser 22 = .ok (.getfield 16, 3) := by decide +kernel
theorem dX10_chaser_25 : decode cX10_chaser 25 = .ok (.bipush 24, 2) := by decide +kernel
theorem dX10_chaser_27 : decode cX10_chaser 27 = .ok (.iload_n 2, 1) := by decide +kernel
theorem dX10_chaser_28 : decode cX10_chaser 28 = .ok (.imul, 1) := by decide +kernel
theorem dX10_chaser_29 : decode cX10_chaser 29 = .ok (.iload_n 1, 1) := by decide +kernel
theorem dX10_chaser_30 : decode cX10_chaser 30 = .ok (.iadd, 1) := by decide +kernel
theorem dX10_chaser_31 : decode cX10_chaser 31 = .ok (.iaload, 1) := by decide +kernel
theorem dX10_chaser_32 : decode cX10_chaser 32 = .ok (.iconst 1, 1) := by decide +kernel
theorem dX10_chaser_33 : decode cX10_chaser 33 = .ok (.if_icmp .ne 6, 3) := by decide +kernel
theorem dX10_chaser_36 : decode cX10_chaser 36 = .ok (.bipush (-3), 2) := by decide +kernel
theorem dX10_chaser_38 : decode cX10_chaser 38 = .ok (.ireturn, 1) := by decide +kernel
theorem dX10_chaser_39 : decode cX10_chaser 39 = .ok (.aload_n 0, 1) := by decide +kernel
theorem dX10_chaser_40 : decode cX10_chaser 40 = .ok (.getfield 115, 3) := by decide +kernel
theorem dX10_chaser_43 : decode cX10_chaser 43 = .ok (.iconst 4, 1) := by decide +kernel
theorem dX10_chaser_44 : decode cX10_chaser 44 = .ok (.if_icmp .ne 6, 3) := by decide +kernel
theorem dX10_chaser_47 : decode cX10_chaser 47 = .ok (.bipush (-4), 2) := by decide +kernel
theorem dX10_chaser_49 : decode cX10_chaser 49 = .ok (.ireturn, 1) := by decide +kernel
theorem dX10_chaser_50 : decode cX10_chaser 50 = .ok (.aload_n 0, 1) := by decide +kernel
theorem dX10_chaser_51 : decode cX10_chaser 51 = .ok (.getfield 78, 3) := by decide +kernel
theorem dX10_chaser_54 : decode cX10_chaser 54 = .ok (.aload_n 0, 1) := by decide +kernel
theorem dX10_chaser_55 : decode cX10_chaser 55 = .ok (.getfield 115, 3) := by decide +kernel
theorem dX10_chaser_58 : decode cX10_chaser 58 = .ok (.iload_n 1, 1) := by decide +kernel
theorem dX10_chaser_59 : decode cX10_chaser 59 = .ok (.iastore, 1) := by decide +kernel
theorem dX10_chaser_60 : decode cX10_chaser 60 = .ok (.aload_n 0, 1) := by decide +kernel
theorem dX10_chaser_61 : decode cX10_chaser 61 = .ok (.getfield 81, 3) := by decide +kernel
theorem dX10_chaser_64 : decode cX10_chaser 64 = .ok (.aload_n 0, 1) := by decide +kernel
theorem dX10_chaser_65 : decode cX10_chaser 65 = .ok (.getfield 115, 3) := by decide +kernel
theorem dX10_chaser_68 : decode cX10_chaser 68 = .ok (.iload_n 2, 1) := by decide +kernel
theorem dX10_chaser_69 : decode cX10_chaser 69 = .ok (.iastore, 1) := by decide +kernel
theorem dX10_chaser_70 : decode cX10_chaser 70 = .ok (.aload_n 0, 1) := by decide +kernel
theorem dX10_chaser_71 : decode cX10_chaser 71 = .ok (.getfield 84, 3) := by decide +kernel
theorem dX10_chaser_74 : decode cX10_chaser 74 = .ok (.aload_n 0, 1) := by decide +kernel
theorem dX10_chaser_75 : decode cX10_chaser 75 = .ok (.getfield 115, 3) := by decide +kernel
theorem dX10_chaser_78 : decode cX10_chaser 78 = .ok (.iload_n 3, 1) := by decide +kernel
theorem dX10_chaser_79 : decode cX10_chaser 79 = .ok (.iastore, 1) := by decide +kernel
theorem dX10_chaser_80 : decode cX10_chaser 80 = .ok (.aload_n 0, 1) := by decide +kernel
theorem dX10_chaser_81 : decode cX10_chaser 81 = .ok (.dup, 1) := by decide +kernel
theorem dX10_chaser_82 : decode cX10_chaser 82 = .ok (.getfield 115, 3) := by decide +kernel
theorem dX10_chaser_85 : decode cX10_chaser 85 = .ok (.iconst 1, 1) := by decide +kernel
theorem dX10_chaser_86 : decode cX10_chaser 86 = .ok (.iadd, 1) := by decide +kernel
theorem dX10_chaser_87 : decode cX10_chaser 87 = .ok (.putfield 115, 3) := by decide +kernel
theorem dX10_chaser_90 : decode cX10_chaser 90 = .ok (.aload_n 0, 1) := by decide +kernel
theorem dX10_chaser_91 : decode cX10_chaser 91 = .ok (.getfield 115, 3) := by decide +kernel
theorem dX10_chaser_94 : decode cX10_chaser 94 = .ok (.iconst 1, 1) := by decide +kernel
theorem dX10_chaser_95 : decode cX10_chaser 95 = .ok (.isub, 1) := by decide +kernel
theorem dX10_chaser_96 : decode cX10_chaser 96 = .ok (.ireturn, 1) := by decide +kernel
set_option maxRecDepth 20000 in
theorem ggX10_chased_X10_reaches : GoodIn wsX10_chased wsX10_reaches := goodIn_r _ [9, 10, 1, 11, 12, 13, 8, 14, 15, 16, 17, 18, 19, 20, 21, 22, 23, 24, 25, 26, 27, 28, 29, 30, 31, 32, 33, 34, 35, 36, 37, 38, 39, 40, 41, 42, 43, 44, 45, 46, 47, 48, 49, 50, 51, 52, 53, 54, 55, 56, 57, 58, 59, 60, 61, 62] (by decide +kernel) (by decide +kernel)
set_option maxRecDepth 20000 in
theorem gX10_chased_X10_reaches : GoodIn wsX10_chased (wsV RX10 203 RX10 yX10_reaches wsX10_reaches) := goodIn_app (goodIn_of _ (by decide +kernel)) ggX10_chased_X10_reaches
theorem dX10_chased_0 : decode cX10_chased 0 = .ok (.iconst 0, 1) := by decide +kernel
theorem dX10_chased_1 : decode cX10_chased 1 = .ok (.istore 4, 2) := by decide +kernel
theorem dX10_chased_3 : decode cX10_chased 3 = .ok (.iload 4, 2) := by decide +kernel
theorem dX10_chased_5 : decode cX10_chased 5 = .ok (.sipush 576, 3) := by decide +kernel
theorem dX10_chased_8 : decode cX10_chased 8 = .ok (.if_icmp .ge 17, 3) := by decide +kernel
theorem dX10_chased_11 : decode cX10_chased 11 = .ok (.aload_n 0, 1) := by decide +kernel
theorem dX10_chased_12 : decode cX10_chased 12 = .ok (.getfield 102, 3) := by decide +kernel
theorem dX10_chased_15 : decode cX10_chased 15 = .ok (.iload 4, 2) := by decide +kernel
theorem dX10_chased_17 : decode cX10_chased 17 = .ok (.iconst (-1), 1) := by decide +kernel
theorem dX10_chased_18 : decode cX10_chased 18 = .ok (.iastore, 1) := by decide +kernel
theorem dX10_chased_19 : decode cX10_chased 19 = .ok (.iinc 4 1, 3) := by decide +kernel
theorem dX10_chased_22 : decode cX10_chased 22 = .ok (.goto (-19), 3) := by decide +kernel
theorem dX10_chased_25 : decode cX10_chased 25 = .ok (.aload_n 0, 1) := by decide +kernel
theorem dX10_chased_26 : decode cX10_chased 26 = .ok (.getfield 102, 3) := by decide +kernel
theorem dX10_chased_29 : decode cX10_chased 29 = .ok (.bipush 24, 2) := by decide +kernel
theorem dX10_chased_31 : decode cX10_chased 31 = .ok (.aload_n 0, 1) := by decide +kernel
theorem dX10_chased_32 : decode cX10_chased 32 = .ok (.getfield 81, 3) := by decide +kernel
theorem dX10_chased_35 : decode cX10_chased 35 = .ok (.iload_n 1, 1) := by decide +kernel
theorem dX10_chased_36 : decode cX10_chased 36 = .ok (.iaload, 1) := by decide +kernel
theorem dX10_chased_37 : decode cX10_chased 37 = .ok (.imul, 1) := by decide +kernel
theorem dX10_chased_38 : decode cX10_chased 38 = .ok (.aload_n 0, 1) := by decide +kernel
theorem dX10_chased_39 : decode cX10_chased 39 = .ok (.getfield 78, 3) := by decide +kernel
theorem dX10_chased_42 : decode cX10_chased 42 = .ok (.iload_n 1, 1) := by decide +kernel
theorem dX10_chased_43 : decode cX10_chased 43 = .ok (.iaload, 1) := by decide +kernel
theorem dX10_chased_44 : decode cX10_chased 44 = .ok (.iadd, 1) := by decide +kernel
theorem dX10_chased_45 : decode cX10_chased 45 = .ok (.iconst 0, 1) := by decide +kernel
theorem dX10_chased_46 : decode cX10_chased 46 = .ok (.iastore, 1) := by decide +kernel
theorem dX10_chased_47 : decode cX10_chased 47 = .ok (.iconst 1, 1) := by decide +kernel
theorem dX10_chased_48 : decode cX10_chased 48 = .ok (.istore 4, 2) := by decide +kernel
theorem dX10_chased_50 : decode cX10_chased 50 = .ok (.iconst 0, 1) := by decide +kernel
theorem dX10_chased_51 : decode cX10_chased 51 = .ok (.istore 5, 2) := by decide +kernel
theorem dX10_chased_53 : decode cX10_chased 53 = .ok (.iload 4, 2) := by decide +kernel
theorem dX10_chased_55 : decode cX10_chased 55 = .ok (.ifCond .eq 153, 3) := by decide +kernel
theorem dX10_chased_58 : decode cX10_chased 58 = .ok (.iconst 0, 1) := by decide +kernel
theorem dX10_chased_59 : decode cX10_chased 59 = .ok (.istore 4, 2) := by decide +kernel
theorem dX10_chased_61 : decode cX10_chased 61 = .ok (.iconst 0, 1) := by decide +kernel
theorem dX10_chased_62 : decode cX10_chased 62 = .ok (.istore 6, 2) := by decide +kernel
theorem dX10_chased_64 : decode cX10_chased 64 = .ok (.iload 6, 2) := by decide +kernel
theorem dX10_chased_66 : decode cX10_chased 66 = .ok (.sipush 576, 3) := by decide +kernel
theorem dX10_chased_69 : decode cX10_chased 69 = .ok (.if_icmp .ge 133, 3) := by decide +kernel
theorem dX10_chased_72 : decode cX10_chased 72 = .ok (.aload_n 0, 1) := by decide +kernel
theorem dX10_chased_73 : decode cX10_chased 73 = .ok (.getfield 102, 3) := by decide +kernel
theorem dX10_chased_76 : decode cX10_chased 76 = .ok (.iload 6, 2) := by decide +kernel
theorem dX10_chased_78 : decode cX10_chased 78 = .ok (.iaload, 1) := by decide +kernel
theorem dX10_chased_79 : decode cX10_chased 79 = .ok (.iload 5, 2) := by decide +kernel
theorem dX10_chased_81 : decode cX10_chased 81 = .ok (.if_icmp .ne 115, 3) := by decide +kernel
theorem dX10_chased_84 : decode cX10_chased 84 = .ok (.aload_n 0, 1) := by decide +kernel
theorem dX10_chased_85 : decode cX10_chased 85 = .ok (.iload 6, 2) := by decide +kernel
theorem dX10_chased_87 : decode cX10_chased 87 = .ok (.bipush 24, 2) := by decide +kernel
theorem dX10_chased_89 : decode cX10_chased 89 = .ok (.irem, 1) := by decide +kernel
theorem dX10_chased_90 : decode cX10_chased 90 = .ok (.iconst 1, 1) := by decide +kernel
theorem dX10_chased_91 : decode cX10_chased 91 = .ok (.iadd, 1) := by decide +kernel
theorem dX10_chased_92 : decode cX10_chased 92 = .ok (.iload 6, 2) := by decide +kernel
theorem dX10_chased_94 : decode cX10_chased 94 = .ok (.bipush 24, 2) := by decide +kernel
theorem dX10_chased_96 : decode cX10_chased 96 = .ok (.idiv, 1) := by decide +kernel
theorem dX10_chased_97 : decode cX10_chased 97 = .ok (.iload 5, 2) := by decide +kernel
theorem dX10_chased_99 : decode cX10_chased 99 = .ok (.invokevirtual 203, 3) := by decide +kernel
theorem dX10_chased_102 : decode cX10_chased 102 = .ok (.istore 7, 2) := by decide +kernel
theorem dX10_chased_104 : decode cX10_chased 104 = .ok (.aload_n 0, 1) := by decide +kernel
theorem dX10_chased_105 : decode cX10_chased 105 = .ok (.iload 6, 2) := by decide +kernel
theorem dX10_chased_107 : decode cX10_chased 107 = .ok (.bipush 24, 2) := by decide +kernel
theorem dX10_chased_109 : decode cX10_chased 109 = .ok (.irem, 1) := by decide +kernel
theorem dX10_chased_110 : decode cX10_chased 110 = .ok (.iconst 1, 1) := by decide +kernel
theorem dX10_chased_111 : decode cX10_chased 111 = .ok (.isub, 1) := by decide +kernel
theorem dX10_chased_112 : decode cX10_chased 112 = .ok (.iload 6, 2) := by decide +kernel
theorem dX10_chased_114 : decode cX10_chased 114 = .ok (.bipush 24, 2) := by decide +kernel
theorem dX10_chased_116 : decode cX10_chased 116 = .ok (.idiv, 1) := by decide +kernel
theorem dX10_chased_117 : decode cX10_chased 117 = .ok (.iload 5, 2) := by decide +kernel
theorem dX10_chased_119 : decode cX10_chased 119 = .ok (.invokevirtual 203, 3) := by decide +kernel
theorem dX10_chased_122 : decode cX10_chased 122 = .ok (.istore 8, 2) := by decide +kernel
theorem dX10_chased_124 : decode cX10_chased 124 = .ok (.aload_n 0, 1) := by decide +kernel
theorem dX10_chased_125 : decode cX10_chased 125 = .ok (.iload 6, 2) := by decide +kernel
theorem dX10_chased_127 : decode cX10_chased 127 = .ok (.bipush 24, 2) := by decide +kernel
theorem dX10_chased_129 : decode cX10_chased 129 = .ok (.irem, 1) := by decide +kernel
theorem dX10_chased_130 : decode cX10_chased 130 = .ok (.iload 6, 2) := by decide +kernel
theorem dX10_chased_132 : decode cX10_chased 132 = .ok (.bipush 24, 2) := by decide +kernel
theorem dX10_chased_134 : decode cX10_chased 134 = .ok (.idiv, 1) := by decide +kernel
theorem dX10_chased_135 : decode cX10_chased 135 = .ok (.iconst 1, 1) := by decide +kernel
theorem dX10_chased_136 : decode cX10_chased 136 = .ok (.iadd, 1) := by decide +kernel
theorem dX10_chased_137 : decode cX10_chased 137 = .ok (.iload 5, 2) := by decide +kernel
theorem dX10_chased_139 : decode cX10_chased 139 = .ok (.invokevirtual 203, 3) := by decide +kernel
theorem dX10_chased_142 : decode cX10_chased 142 = .ok (.istore 9, 2) := by decide +kernel
theorem dX10_chased_144 : decode cX10_chased 144 = .ok (.aload_n 0, 1) := by decide +kernel
theorem dX10_chased_145 : decode cX10_chased 145 = .ok (.iload 6, 2) := by decide +kernel
theorem dX10_chased_147 : decode cX10_chased 147 = .ok (.bipush 24, 2) := by decide +kernel
theorem dX10_chased_149 : decode cX10_chased 149 = .ok (.irem, 1) := by decide +kernel
theorem dX10_chased_150 : decode cX10_chased 150 = .ok (.iload 6, 2) := by decide +kernel
theorem dX10_chased_152 : decode cX10_chased 152 = .ok (.bipush 24, 2) := by decide +kernel
theorem dX10_chased_154 : decode cX10_chased 154 = .ok (.idiv, 1) := by decide +kernel
theorem dX10_chased_155 : decode cX10_chased 155 = .ok (.iconst 1, 1) := by decide +kernel
theorem dX10_chased_156 : decode cX10_chased 156 = .ok (.isub, 1) := by decide +kernel
theorem dX10_chased_157 : decode cX10_chased 157 = .ok (.iload 5, 2) := by decide +kernel
theorem dX10_chased_159 : decode cX10_chased 159 = .ok (.invokevirtual 203, 3) := by decide +kernel
theorem dX10_chased_162 : decode cX10_chased 162 = .ok (.istore 10, 2) := by decide +kernel
theorem dX10_chased_164 : decode cX10_chased 164 = .ok (.iload 4, 2) := by decide +kernel
theorem dX10_chased_166 : decode cX10_chased 166 = .ok (.ifCond .ne 23, 3) := by decide +kernel
theorem dX10_chased_169 : decode cX10_chased 169 = .ok (.iload 7, 2) := by decide +kernel
theorem dX10_chased_171 : decode cX10_chased 171 = .ok (.ifCond .ne 18, 3) := by decide +kernel
theorem dX10_chased_174 : decode cX10_chased 174 = .ok (.iload 8, 2) := by decide +kernel
theorem dX10_chased_176 : decode cX10_chased 176 = .ok (.ifCond .ne 13, 3) := by decide +kernel
theorem dX10_chased_179 : decode cX10_chased 179 = .ok (.iload 9, 2) := by decide +kernel
theorem dX10_chased_181 : decode cX10_chased 181 = .ok (.ifCond .ne 8, 3) := by decide +kernel
theorem dX10_chased_184 : decode cX10_chased 184 = .ok (.iload 10, 2) := by decide +kernel
theorem dX10_chased_186 : decode cX10_chased 186 = .ok (.ifCond .eq 7, 3) := by decide +kernel
theorem dX10_chased_189 : decode cX10_chased 189 = .ok (.iconst 1, 1) := by decide +kernel
theorem dX10_chased_190 : decode cX10_chased 190 = .ok (.goto 4, 3) := by decide +kernel
theorem dX10_chased_193 : decode cX10_chased 193 = .ok (.iconst 0, 1) := by decide +kernel
theorem dX10_chased_194 : decode cX10_chased 194 = .ok (.istore 4, 2) := by decide +kernel
theorem dX10_chased_196 : decode cX10_chased 196 = .ok (.iinc 6 1, 3) := by decide +kernel
theorem dX10_chased_199 : decode cX10_chased 199 = .ok (.goto (-135), 3) := by decide +kernel
theorem dX10_chased_202 : decode cX10_chased 202 = .ok (.iinc 5 1, 3) := by decide +kernel
theorem dX10_chased_205 : decode cX10_chased 205 = .ok (.goto (-152), 3) := by decide +kernel
theorem dX10_chased_208 : decode cX10_chased 208 = .ok (.aload_n 0, 1) := by decide +kernel
theorem dX10_chased_209 : decode cX10_chased 209 = .ok (.getfield 102, 3) := by decide +kernel
theorem dX10_chased_212 : decode cX10_chased 212 = .ok (.bipush 24, 2) := by decide +kernel
theorem dX10_chased_214 : decode cX10_chased 214 = .ok (.iload_n 3, 1) := by decide +kernel
theorem dX10_chased_215 : decode cX10_chased 215 = .ok (.imul, 1) := by decide +kernel
theorem dX10_chased_216 : decode cX10_chased 216 = .ok (.iload_n 2, 1) := by decide +kernel
theorem dX10_chased_217 : decode cX10_chased 217 = .ok (.iadd, 1) := by decide +kernel
theorem dX10_chased_218 : decode cX10_chased 218 = .ok (.iaload, 1) := by decide +kernel
theorem dX10_chased_219 : decode cX10_chased 219 = .ok (.istore 5, 2) := by decide +kernel
theorem dX10_chased_221 : decode cX10_chased 221 = .ok (.iload 5, 2) := by decide +kernel
theorem dX10_chased_223 : decode cX10_chased 223 = .ok (.iconst (-1), 1) := by decide +kernel
theorem dX10_chased_224 : decode cX10_chased 224 = .ok (.if_icmp .ne 7, 3) := by decide +kernel
theorem dX10_chased_227 : decode cX10_chased 227 = .ok (.iconst (-1), 1) := by decide +kernel
theorem dX10_chased_228 : decode cX10_chased 228 = .ok (.goto 21, 3) := by decide +kernel
theorem dX10_chased_231 : decode cX10_chased 231 = .ok (.iload 5, 2) := by decide +kernel
theorem dX10_chased_233 : decode cX10_chased 233 = .ok (.aload_n 0, 1) := by decide +kernel
theorem dX10_chased_234 : decode cX10_chased 234 = .ok (.getfield 84, 3) := by decide +kernel
theorem dX10_chased_237 : decode cX10_chased 237 = .ok (.iload_n 1, 1) := by decide +kernel
theorem dX10_chased_238 : decode cX10_chased 238 = .ok (.iaload, 1) := by decide +kernel
theorem dX10_chased_239 : decode cX10_chased 239 = .ok (.iadd, 1) := by decide +kernel
theorem dX10_chased_240 : decode cX10_chased 240 = .ok (.iconst 1, 1) := by decide +kernel
theorem dX10_chased_241 : decode cX10_chased 241 = .ok (.isub, 1) := by decide +kernel
theorem dX10_chased_242 : decode cX10_chased 242 = .ok (.aload_n 0, 1) := by decide +kernel
theorem dX10_chased_243 : decode cX10_chased 243 = .ok (.getfield 84, 3) := by decide +kernel
theorem dX10_chased_246 : decode cX10_chased 246 = .ok (.iload_n 1, 1) := by decide +kernel
theorem dX10_chased_247 : decode cX10_chased 247 = .ok (.iaload, 1) := by decide +kernel
theorem dX10_chased_248 : decode cX10_chased 248 = .ok (.idiv, 1) := by decide +kernel
theorem dX10_chased_249 : decode cX10_chased 249 = .ok (.ireturn, 1) := by decide +kernel
set_option maxRecDepth 20000 in
theorem ggX10_reaches_X10_isCell : GoodIn wsX10_reaches wsX10_isCell := goodIn_r _ [7, 8, 9, 10, 11, 6, 12, 13, 14, 15, 16, 17, 18, 19, 20, 21, 22, 23, 24, 25, 26, 27, 28, 29, 30, 31, 32, 33, 34, 35, 36, 37, 38, 39, 40, 41, 42, 43, 44, 45, 46, 47, 48, 49, 50, 51, 52, 53, 54, 55] (by decide +kernel) (by decide +kernel)
set_option maxRecDepth 20000 in
theorem gX10_reaches_X10_isCell : GoodIn wsX10_reaches (wsV RX10 118 RX10 yX10_isCell wsX10_isCell) := goodIn_app (goodIn_of _ (by decide +kernel)) ggX10_reaches_X10_isCell
theorem dX10_reaches_0 : decode cX10_reaches 0 = .ok (.aload_n 0, 1) := by decide +kernel
theorem dX10_reaches_1 : decode cX10_reaches 1 = .ok (.iload_n 1, 1) := by decide +kernel
theorem dX10_reaches_2 : decode cX10_reaches 2 = .ok (.iload_n 2, 1) := by decide +kernel
theorem dX10_reaches_3 : decode cX10_reaches 3 = .ok (.invokevirtual 118, 3) := by decide +kernel
theorem dX10_reaches_6 : decode cX10_reaches 6 = .ok (.ifCond .eq 33, 3) := by decide +kernel
theorem dX10_reaches_9 : decode cX10_reaches 9 = .ok (.aload_n 0, 1) := by decide +kernel
theorem dX10_reaches_10 : decode cX10_reaches 10 = .ok (.getfield 16, 3) := by decide +kernel
theorem dX10_reaches_13 : decode cX10_reaches 13 = .ok (.bipush 24, 2) := by decide +kernel
theorem dX10_reaches_15 : decode cX10_reaches 15 = .ok (.iload_n 2, 1) := by decide +kernel
theorem dX10_reaches_16 : decode cX10_reaches 16 = .ok (.imul, 1) := by decide +kernel
theorem dX10_reaches_17 : decode cX10_reaches 17 = .ok (.iload_n 1, 1) := by decide +kernel
theorem dX10_reaches_18 : decode cX10_reaches 18 = .ok (.iadd, 1) := by decide +kernel
theorem dX10_reaches_19 : decode cX10_reaches 19 = .ok (.iaload, 1) := by decide +kernel
theorem dX10_reaches_20 : decode cX10_reaches 20 = .ok (.iconst 1, 1) := by decide +kernel
theorem dX10_reaches_21 : decode cX10_reaches 21 = .ok (.if_icmp .eq 18, 3) := by decide +kernel
theorem dX10_reaches_24 : decode cX10_reaches 24 = .ok (.aload_n 0, 1) := by decide +kernel
theorem dX10_reaches_25 : decode cX10_reaches 25 = .ok (.getfield 102, 3) := by decide +kernel
theorem dX10_reaches_28 : decode cX10_reaches 28 = .ok (.bipush 24, 2) := by decide +kernel
theorem dX10_reaches_30 : decode cX10_reaches 30 = .ok (.iload_n 2, 1) := by decide +kernel
theorem dX10_reaches_31 : decode cX10_reaches 31 = .ok (.imul, 1) := by decide +kernel
theorem dX10_reaches_32 : decode cX10_reaches 32 = .ok (.iload_n 1, 1) := by decide +kernel
theorem dX10_reaches_33 : decode cX10_reaches 33 = .ok (.iadd, 1) := by decide +kernel
theorem dX10_reaches_34 : decode cX10_reaches 34 = .ok (.iaload, 1) := by decide +kernel
theorem dX10_reaches_35 : decode cX10_reaches 35 = .ok (.iconst (-1), 1) := by decide +kernel
theorem dX10_reaches_36 : decode cX10_reaches 36 = .ok (.if_icmp .eq 5, 3) := by decide +kernel
theorem dX10_reaches_39 : decode cX10_reaches 39 = .ok (.iconst 0, 1) := by decide +kernel
theorem dX10_reaches_40 : decode cX10_reaches 40 = .ok (.ireturn, 1) := by decide +kernel
theorem dX10_reaches_41 : decode cX10_reaches 41 = .ok (.aload_n 0, 1) := by decide +kernel
theorem dX10_reaches_42 : decode cX10_reaches 42 = .ok (.getfield 102, 3) := by decide +kernel
theorem dX10_reaches_45 : decode cX10_reaches 45 = .ok (.bipush 24, 2) := by decide +kernel
theorem dX10_reaches_47 : decode cX10_reaches 47 = .ok (.iload_n 2, 1) := by decide +kernel
theorem dX10_reaches_48 : decode cX10_reaches 48 = .ok (.imul, 1) := by decide +kernel
theorem dX10_reaches_49 : decode cX10_reaches 49 = .ok (.iload_n 1, 1) := by decide +kernel
theorem dX10_reaches_50 : decode cX10_reaches 50 = .ok (.iadd, 1) := by decide +kernel
theorem dX10_reaches_51 : decode cX10_reaches 51 = .ok (.iload_n 3, 1) := by decide +kernel
theorem dX10_reaches_52 : decode cX10_reaches 52 = .ok (.iconst 1, 1) := by decide +kernel
theorem dX10_reaches_53 : decode cX10_reaches 53 = .ok (.iadd, 1) := by decide +kernel
theorem dX10_reaches_54 : decode cX10_reaches 54 = .ok (.iastore, 1) := by decide +kernel
theorem dX10_reaches_55 : decode cX10_reaches 55 = .ok (.iconst 1, 1) := by decide +kernel
theorem dX10_reaches_56 : decode cX10_reaches 56 = .ok (.ireturn, 1) := by decide +kernel
set_option maxRecDepth 20000 in
theorem ggX10_chase_X10_in : GoodIn wsX10_chase wsX10_in := goodIn_r _ [5] (by decide +kernel) (by decide +kernel)
set_option maxRecDepth 20000 in
theorem gX10_chase_X10_in : GoodIn wsX10_chase (va_wsS RX10 108 yX10_in wsX10_in) := goodIn_app (goodIn_of _ (by decide +kernel)) ggX10_chase_X10_in
set_option maxRecDepth 20000 in
theorem ggX10_chase_X10_isCell : GoodIn wsX10_chase wsX10_isCell := goodIn_r _ [9, 10, 11, 2, 3, 4, 5, 25, 26, 27, 28, 29, 30, 31, 32, 33, 34, 35, 36, 37, 38, 39, 40, 41, 42, 43, 44, 45, 46, 47, 48, 49, 50, 51, 52, 53, 54, 55, 56, 57, 58, 59, 60, 61, 62, 63, 64, 65, 66, 67] (by decide +kernel) (by decide +kernel)
set_option maxRecDepth 20000 in
theorem gX10_chase_X10_isCell : GoodIn wsX10_chase (wsV RX10 118 RX10 yX10_isCell wsX10_isCell) := goodIn_app (goodIn_of _ (by decide +kernel)) ggX10_chase_X10_isCell
set_option maxRecDepth 20000 in
theorem ggX10_chase_X10_chased : GoodIn wsX10_chase wsX10_chased := goodIn_r _ [15, 16, 17, 18, 19, 20, 21, 22, 4, 23, 24, 6, 7, 8, 9, 10, 11, 2, 3, 5, 25, 26, 27, 28, 29, 30, 31, 32, 33, 34, 35, 36, 37, 38, 39, 40, 41, 42, 43, 44, 45, 46, 47, 48, 49, 50, 51, 52, 53, 54, 55, 56, 57, 58, 59, 60, 61, 62, 63, 64, 65, 66, 67] (by decide +kernel) (by decide +kernel)
set_option maxRecDepth 20000 in
theorem gX10_chase_X10_chased : GoodIn wsX10_chase (wsV RX10 206 RX10 yX10_chased wsX10_chased) := goodIn_app (goodIn_of _ (by decide +kernel)) ggX10_chase_X10_chased
theorem dX10_chase_0 : decode cX10_chase 0 = .ok (.iload_n 1, 1) := by decide +kernel
theorem dX10_chase_1 : decode cX10_chase 1 = .ok (.iconst 0, 1) := by decide +kernel
theorem dX10_chase_2 : decode cX10_chase 2 = .ok (.aload_n 0, 1) := by decide +kernel
theorem dX10_chase_3 : decode cX10_chase 3 = .ok (.getfield 115, 3) := by decide +kernel
theorem dX10_chase_6 : decode cX10_chase 6 = .ok (.iconst 1, 1) := by decide +kernel
theorem dX10_chase_7 : decode cX10_chase 7 = .ok (.isub, 1) := by decide +kernel
theorem dX10_chase_8 : decode cX10_chase 8 = .ok (.invokestatic 108, 3) := by decide +kernel
theorem dX10_chase_11 : decode cX10_chase 11 = .ok (.ifCond .eq 22, 3) := by decide +kernel
theorem dX10_chase_14 : decode cX10_chase 14 = .ok (.aload_n 0, 1) := by decide +kernel
theorem dX10_chase_15 : decode cX10_chase 15 = .ok (.iload_n 2, 1) := by decide +kernel
theorem dX10_chase_16 : decode cX10_chase 16 = .ok (.iload_n 3, 1) := by decide +kernel
theorem dX10_chase_17 : decode cX10_chase 17 = .ok (.invokevirtual 118, 3) := by decide +kernel
theorem dX10_chase_20 : decode cX10_chase 20 = .ok (.ifCond .eq 13, 3) := by decide +kernel
theorem dX10_chase_23 : decode cX10_chase 23 = .ok (.aload_n 0, 1) := by decide +kernel
theorem dX10_chase_24 : decode cX10_chase 24 = .ok (.iload_n 1, 1) := by decide +kernel
theorem dX10_chase_25 : decode cX10_chase 25 = .ok (.iload_n 2, 1) := by decide +kernel
theorem dX10_chase_26 : decode cX10_chase 26 = .ok (.iload_n 3, 1) := by decide +kernel
theorem dX10_chase_27 : decode cX10_chase 27 = .ok (.invokevirtual 206, 3) := by decide +kernel
theorem dX10_chase_30 : decode cX10_chase 30 = .ok (.goto 5, 3) := by decide +kernel
theorem dX10_chase_33 : decode cX10_chase 33 = .ok (.bipush (-2), 2) := by decide +kernel
theorem dX10_chase_35 : decode cX10_chase 35 = .ok (.ireturn, 1) := by decide +kernel
set_option maxRecDepth 20000 in
theorem ggX10_first_X10_isFlight : GoodIn wsX10_first wsX10_isFlight := goodIn_r _ [8, 9, 10, 11, 7, 12, 32, 33, 34, 35, 36, 37, 38, 39, 40, 41, 42, 43, 44, 45, 46, 47, 48, 49, 50, 51, 52, 53, 54, 55, 56, 57, 58, 59, 60, 61, 62, 63, 64, 65, 66, 67, 68, 69, 70, 71, 72, 73, 74] (by decide +kernel) (by decide +kernel)
set_option maxRecDepth 20000 in
theorem gX10_first_X10_isFlight : GoodIn wsX10_first (wsV RX10 152 RX10 yX10_isFlight wsX10_isFlight) := goodIn_app (goodIn_of _ (by decide +kernel)) ggX10_first_X10_isFlight
set_option maxRecDepth 20000 in
theorem ggX10_first_X10_chased : GoodIn wsX10_first wsX10_chased := goodIn_r _ [16, 17, 18, 19, 20, 21, 22, 23, 7, 24, 25, 26, 27, 28, 29, 30, 31, 10, 11, 12, 32, 33, 34, 35, 36, 37, 38, 39, 40, 41, 42, 43, 44, 45, 46, 47, 48, 49, 50, 51, 52, 53, 54, 55, 56, 57, 58, 59, 60, 61, 62, 63, 64, 65, 66, 67, 68, 69, 70, 71, 72, 73, 74] (by decide +kernel) (by decide +kernel)
set_option maxRecDepth 20000 in
theorem gX10_first_X10_chased : GoodIn wsX10_first (wsV RX10 206 RX10 yX10_chased wsX10_chased) := goodIn_app (goodIn_of _ (by decide +kernel)) ggX10_first_X10_chased
theorem dX10_first_0 : decode cX10_first 0 = .ok (.aload_n 0, 1) := by decide +kernel
theorem dX10_first_1 : decode cX10_first 1 = .ok (.iload_n 1, 1) := by decide +kernel
theorem dX10_first_2 : decode cX10_first 2 = .ok (.invokevirtual 152, 3) := by decide +kernel
theorem dX10_first_5 : decode cX10_first 5 = .ok (.ifCond .ne 6, 3) := by decide +kernel
theorem dX10_first_8 : decode cX10_first 8 = .ok (.bipush (-2), 2) := by decide +kernel
theorem dX10_first_10 : decode cX10_first 10 = .ok (.ireturn, 1) := by decide +kernel
theorem dX10_first_11 : decode cX10_first 11 = .ok (.iconst (-1), 1) := by decide +kernel
theorem dX10_first_12 : decode cX10_first 12 = .ok (.istore_n 2, 1) := by decide +kernel
theorem dX10_first_13 : decode cX10_first 13 = .ok (.iconst (-1), 1) := by decide +kernel
theorem dX10_first_14 : decode cX10_first 14 = .ok (.istore_n 3, 1) := by decide +kernel
theorem dX10_first_15 : decode cX10_first 15 = .ok (.iconst 0, 1) := by decide +kernel
theorem dX10_first_16 : decode cX10_first 16 = .ok (.istore 4, 2) := by decide +kernel
theorem dX10_first_18 : decode cX10_first 18 = .ok (.iload 4, 2) := by decide +kernel
theorem dX10_first_20 : decode cX10_first 20 = .ok (.aload_n 0, 1) := by decide +kernel
theorem dX10_first_21 : decode cX10_first 21 = .ok (.getfield 115, 3) := by decide +kernel
theorem dX10_first_24 : decode cX10_first 24 = .ok (.if_icmp .ge 52, 3) := by decide +kernel
theorem dX10_first_27 : decode cX10_first 27 = .ok (.aload_n 0, 1) := by decide +kernel
theorem dX10_first_28 : decode cX10_first 28 = .ok (.iload 4, 2) := by decide +kernel
theorem dX10_first_30 : decode cX10_first 30 = .ok (.aload_n 0, 1) := by decide +kernel
theorem dX10_first_31 : decode cX10_first 31 = .ok (.getfield 35, 3) := by decide +kernel
theorem dX10_first_34 : decode cX10_first 34 = .ok (.iload_n 1, 1) := by decide +kernel
theorem dX10_first_35 : decode cX10_first 35 = .ok (.iaload, 1) := by decide +kernel
theorem dX10_first_36 : decode cX10_first 36 = .ok (.aload_n 0, 1) := by decide +kernel
theorem dX10_first_37 : decode cX10_first 37 = .ok (.getfield 38, 3) := by decide +kernel
theorem dX10_first_40 : decode cX10_first 40 = .ok (.iload_n 1, 1) := by decide +kernel
theorem dX10_first_41 : decode cX10_first 41 = .ok (.iaload, 1) := by decide +kernel
theorem dX10_first_42 : decode cX10_first 42 = .ok (.invokevirtual 206, 3) := by decide +kernel
theorem dX10_first_45 : decode cX10_first 45 = .ok (.istore 5, 2) := by decide +kernel
theorem dX10_first_47 : decode cX10_first 47 = .ok (.iload 5, 2) := by decide +kernel
theorem dX10_first_49 : decode cX10_first 49 = .ok (.iconst (-1), 1) := by decide +kernel
theorem dX10_first_50 : decode cX10_first 50 = .ok (.if_icmp .eq 20, 3) := by decide +kernel
theorem dX10_first_53 : decode cX10_first 53 = .ok (.iload_n 2, 1) := by decide +kernel
theorem dX10_first_54 : decode cX10_first 54 = .ok (.iconst (-1), 1) := by decide +kernel
theorem dX10_first_55 : decode cX10_first 55 = .ok (.if_icmp .eq 9, 3) := by decide +kernel
theorem dX10_first_58 : decode cX10_first 58 = .ok (.iload 5, 2) := by decide +kernel
theorem dX10_first_60 : decode cX10_first 60 = .ok (.iload_n 3, 1) := by decide +kernel
theorem dX10_first_61 : decode cX10_first 61 = .ok (.if_icmp .ge 9, 3) := by decide +kernel
theorem dX10_first_64 : decode cX10_first 64 = .ok (.iload 4, 2) := by decide +kernel
theorem dX10_first_66 : decode cX10_first 66 = .ok (.istore_n 2, 1) := by decide +kernel
theorem dX10_first_67 : decode cX10_first 67 = .ok (.iload 5, 2) := by decide +kernel
theorem dX10_first_69 : decode cX10_first 69 = .ok (.istore_n 3, 1) := by decide +kernel
theorem dX10_first_70 : decode cX10_first 70 = .ok (.iinc 4 1, 3) := by decide +kernel
theorem dX10_first_73 : decode cX10_first 73 = .ok (.goto (-55), 3) := by decide +kernel
theorem dX10_first_76 : decode cX10_first 76 = .ok (.iload_n 2, 1) := by decide +kernel
theorem dX10_first_77 : decode cX10_first 77 = .ok (.ireturn, 1) := by decide +kernel
set_option maxRecDepth 20000 in
theorem ggX10_isAhead_X10_distanceFlown : GoodIn wsX10_isAhead wsX10_distanceFlown := goodIn_r _ [6, 7, 8, 9, 10, 11, 5, 12, 13, 14, 15, 16, 17, 18, 19, 20, 21, 22, 23, 24, 25, 26, 27, 28, 29, 30, 31, 32, 33, 34, 35, 36, 37, 38, 39, 40, 41, 42, 43, 44, 45, 46, 47, 48, 49, 50, 51, 52, 53, 54, 55] (by decide +kernel) (by decide +kernel)
set_option maxRecDepth 20000 in
theorem gX10_isAhead_X10_distanceFlown : GoodIn wsX10_isAhead (wsV RX10 168 RX10 yX10_distanceFlown wsX10_distanceFlown) := goodIn_app (goodIn_of _ (by decide +kernel)) ggX10_isAhead_X10_distanceFlown
theorem dX10_isAhead_0 : decode cX10_isAhead 0 = .ok (.aload_n 0, 1) := by decide +kernel
theorem dX10_isAhead_1 : decode cX10_isAhead 1 = .ok (.iload_n 1, 1) := by decide +kernel
theorem dX10_isAhead_2 : decode cX10_isAhead 2 = .ok (.invokevirtual 168, 3) := by decide +kernel
theorem dX10_isAhead_5 : decode cX10_isAhead 5 = .ok (.istore_n 3, 1) := by decide +kernel
theorem dX10_isAhead_6 : decode cX10_isAhead 6 = .ok (.aload_n 0, 1) := by decide +kernel
theorem dX10_isAhead_7 : decode cX10_isAhead 7 = .ok (.iload_n 2, 1) := by decide +kernel
theorem dX10_isAhead_8 : decode cX10_isAhead 8 = .ok (.invokevirtual 168, 3) := by decide +kernel
theorem dX10_isAhead_11 : decode cX10_isAhead 11 = .ok (.istore 4, 2) := by decide +kernel
theorem dX10_isAhead_13 : decode cX10_isAhead 13 = .ok (.iload_n 3, 1) := by decide +kernel
theorem dX10_isAhead_14 : decode cX10_isAhead 14 = .ok (.iload 4, 2) := by decide +kernel
theorem dX10_isAhead_16 : decode cX10_isAhead 16 = .ok (.if_icmp .eq 15, 3) := by decide +kernel
theorem dX10_isAhead_19 : decode cX10_isAhead 19 = .ok (.iload_n 3, 1) := by decide +kernel
theorem dX10_isAhead_20 : decode cX10_isAhead 20 = .ok (.iload 4, 2) := by decide +kernel
theorem dX10_isAhead_22 : decode cX10_isAhead 22 = .ok (.if_icmp .le 7, 3) := by decide +kernel
theorem dX10_isAhead_25 : decode cX10_isAhead 25 = .ok (.iconst 1, 1) := by decide +kernel
theorem dX10_isAhead_26 : decode cX10_isAhead 26 = .ok (.goto 4, 3) := by decide +kernel
theorem dX10_isAhead_29 : decode cX10_isAhead 29 = .ok (.iconst 0, 1) := by decide +kernel
theorem dX10_isAhead_30 : decode cX10_isAhead 30 = .ok (.ireturn, 1) := by decide +kernel
theorem dX10_isAhead_31 : decode cX10_isAhead 31 = .ok (.aload_n 0, 1) := by decide +kernel
theorem dX10_isAhead_32 : decode cX10_isAhead 32 = .ok (.getfield 66, 3) := by decide +kernel
theorem dX10_isAhead_35 : decode cX10_isAhead 35 = .ok (.iload_n 1, 1) := by decide +kernel
theorem dX10_isAhead_36 : decode cX10_isAhead 36 = .ok (.iaload, 1) := by decide +kernel
theorem dX10_isAhead_37 : decode cX10_isAhead 37 = .ok (.aload_n 0, 1) := by decide +kernel
theorem dX10_isAhead_38 : decode cX10_isAhead 38 = .ok (.getfield 66, 3) := by decide +kernel
theorem dX10_isAhead_41 : decode cX10_isAhead 41 = .ok (.iload_n 2, 1) := by decide +kernel
theorem dX10_isAhead_42 : decode cX10_isAhead 42 = .ok (.iaload, 1) := by decide +kernel
theorem dX10_isAhead_43 : decode cX10_isAhead 43 = .ok (.if_icmp .eq 26, 3) := by decide +kernel
theorem dX10_isAhead_46 : decode cX10_isAhead 46 = .ok (.aload_n 0, 1) := by decide +kernel
theorem dX10_isAhead_47 : decode cX10_isAhead 47 = .ok (.getfield 66, 3) := by decide +kernel
theorem dX10_isAhead_50 : decode cX10_isAhead 50 = .ok (.iload_n 1, 1) := by decide +kernel
theorem dX10_isAhead_51 : decode cX10_isAhead 51 = .ok (.iaload, 1) := by decide +kernel
theorem dX10_isAhead_52 : decode cX10_isAhead 52 = .ok (.aload_n 0, 1) := by decide +kernel
theorem dX10_isAhead_53 : decode cX10_isAhead 53 = .ok (.getfield 66, 3) := by decide +kernel
theorem dX10_isAhead_56 : decode cX10_isAhead 56 = .ok (.iload_n 2, 1) := by decide +kernel
theorem dX10_isAhead_57 : decode cX10_isAhead 57 = .ok (.iaload, 1) := by decide +kernel
theorem dX10_isAhead_58 : decode cX10_isAhead 58 = .ok (.if_icmp .ge 7, 3) := by decide +kernel
theorem dX10_isAhead_61 : decode cX10_isAhead 61 = .ok (.iconst 1, 1) := by decide +kernel
theorem dX10_isAhead_62 : decode cX10_isAhead 62 = .ok (.goto 17, 3) := by decide +kernel
theorem dX10_isAhead_65 : decode cX10_isAhead 65 = .ok (.iconst 0, 1) := by decide +kernel
theorem dX10_isAhead_66 : decode cX10_isAhead 66 = .ok (.goto 13, 3) := by decide +kernel
theorem dX10_isAhead_69 : decode cX10_isAhead 69 = .ok (.iload_n 1, 1) := by decide +kernel
theorem dX10_isAhead_70 : decode cX10_isAhead 70 = .ok (.iload_n 2, 1) := by decide +kernel
theorem dX10_isAhead_71 : decode cX10_isAhead 71 = .ok (.if_icmp .ge 7, 3) := by decide +kernel
theorem dX10_isAhead_74 : decode cX10_isAhead 74 = .ok (.iconst 1, 1) := by decide +kernel
theorem dX10_isAhead_75 : decode cX10_isAhead 75 = .ok (.goto 4, 3) := by decide +kernel
theorem dX10_isAhead_78 : decode cX10_isAhead 78 = .ok (.iconst 0, 1) := by decide +kernel
theorem dX10_isAhead_79 : decode cX10_isAhead 79 = .ok (.ireturn, 1) := by decide +kernel
set_option maxRecDepth 20000 in
theorem ggX10_record_X10_judged : GoodIn wsX10_record wsX10_judged := goodIn_r _ [8, 9, 10, 11, 12, 13, 7, 14, 15, 16, 17, 18, 19, 20, 21, 22, 23, 24, 25, 26, 27, 28, 29, 30, 31, 32, 33, 34, 35, 36, 37, 38, 39, 40, 41, 42, 43, 44, 45, 46, 47, 48, 49, 50, 64, 65, 66, 67, 68, 69, 70, 71, 72, 73, 74, 75, 76, 77, 78, 79, 80, 81, 82, 83, 84, 85, 86, 87, 88, 89, 90, 91, 92, 93, 94, 95, 96, 97, 98, 99, 100, 101, 102, 103, 104, 105, 106] (by decide +kernel) (by decide +kernel)
set_option maxRecDepth 20000 in
theorem gX10_record_X10_judged : GoodIn wsX10_record (wsV RX10 200 RX10 yX10_judged wsX10_judged) := goodIn_app (goodIn_of _ (by decide +kernel)) ggX10_record_X10_judged
set_option maxRecDepth 20000 in
theorem ggX10_record_X10_isAhead : GoodIn wsX10_record wsX10_isAhead := goodIn_r _ [54, 20, 55, 56, 57, 7, 58, 59, 17, 60, 61, 62, 63, 64, 65, 66, 67, 68, 69, 70, 71, 72, 73, 74, 75, 76, 77, 78, 79, 80, 81, 82, 83, 84, 85, 86, 87, 88, 89, 90, 91, 92, 93, 94, 95, 96, 97, 98, 99, 100, 101, 102, 103, 104, 105, 106] (by decide +kernel) (by decide +kernel)
set_option maxRecDepth 20000 in
theorem gX10_record_X10_isAhead : GoodIn wsX10_record (wsV RX10 209 RX10 yX10_isAhead wsX10_isAhead) := goodIn_app (goodIn_of _ (by decide +kernel)) ggX10_record_X10_isAhead
theorem dX10_record_0 : decode cX10_record 0 = .ok (.iload_n 1, 1) := by decide +kernel
theorem dX10_record_1 : decode cX10_record 1 = .ok (.ifCond .ge 6, 3) := by decide +kernel
theorem dX10_record_4 : decode cX10_record 4 = .ok (.bipush (-2), 2) := by decide +kernel
theorem dX10_record_6 : decode cX10_record 6 = .ok (.ireturn, 1) := by decide +kernel
theorem dX10_record_7 : decode cX10_record 7 = .ok (.iconst 0, 1) := by decide +kernel
theorem dX10_record_8 : decode cX10_record 8 = .ok (.istore_n 2, 1) := by decide +kernel
theorem dX10_record_9 : decode cX10_record 9 = .ok (.iload_n 2, 1) := by decide +kernel
theorem dX10_record_10 : decode cX10_record 10 = .ok (.aload_n 0, 1) := by decide +kernel
theorem dX10_record_11 : decode cX10_record 11 = .ok (.getfield 112, 3) := by decide +kernel
theorem dX10_record_14 : decode cX10_record 14 = .ok (.if_icmp .ge 37, 3) := by decide +kernel
theorem dX10_record_17 : decode cX10_record 17 = .ok (.aload_n 0, 1) := by decide +kernel
theorem dX10_record_18 : decode cX10_record 18 = .ok (.getfield 105, 3) := by decide +kernel
theorem dX10_record_21 : decode cX10_record 21 = .ok (.iload_n 2, 1) := by decide +kernel
theorem dX10_record_22 : decode cX10_record 22 = .ok (.aload_n 0, 1) := by decide +kernel
theorem dX10_record_23 : decode cX10_record 23 = .ok (.getfield 59, 3) := by decide +kernel
theorem dX10_record_26 : decode cX10_record 26 = .ok (.iload_n 2, 1) := by decide +kernel
theorem dX10_record_27 : decode cX10_record 27 = .ok (.baload, 1) := by decide +kernel
theorem dX10_record_28 : decode cX10_record 28 = .ok (.ifCond .eq 15, 3) := by decide +kernel
theorem dX10_record_31 : decode cX10_record 31 = .ok (.aload_n 0, 1) := by decide +kernel
theorem dX10_record_32 : decode cX10_record 32 = .ok (.iload_n 2, 1) := by decide +kernel
theorem dX10_record_33 : decode cX10_record 33 = .ok (.invokevirtual 200, 3) := by decide +kernel
theorem dX10_record_36 : decode cX10_record 36 = .ok (.ifCond .ne 7, 3) := by decide +kernel
theorem dX10_record_39 : decode cX10_record 39 = .ok (.iconst 1, 1) := by decide +kernel
theorem dX10_record_40 : decode cX10_record 40 = .ok (.goto 4, 3) := by decide +kernel
theorem dX10_record_43 : decode cX10_record 43 = .ok (.iconst 0, 1) := by decide +kernel
theorem dX10_record_44 : decode cX10_record 44 = .ok (.bastore, 1) := by decide +kernel
theorem dX10_record_45 : decode cX10_record 45 = .ok (.iinc 2 1, 3) := by decide +kernel
theorem dX10_record_48 : decode cX10_record 48 = .ok (.goto (-39), 3) := by decide +kernel
theorem dX10_record_51 : decode cX10_record 51 = .ok (.iconst 0, 1) := by decide +kernel
theorem dX10_record_52 : decode cX10_record 52 = .ok (.istore_n 2, 1) := by decide +kernel
theorem dX10_record_53 : decode cX10_record 53 = .ok (.iload_n 2, 1) := by decide +kernel
theorem dX10_record_54 : decode cX10_record 54 = .ok (.aload_n 0, 1) := by decide +kernel
theorem dX10_record_55 : decode cX10_record 55 = .ok (.getfield 112, 3) := by decide +kernel
theorem dX10_record_58 : decode cX10_record 58 = .ok (.if_icmp .ge 79, 3) := by decide +kernel
theorem dX10_record_61 : decode cX10_record 61 = .ok (.iconst 0, 1) := by decide +kernel
theorem dX10_record_62 : decode cX10_record 62 = .ok (.istore_n 3, 1) := by decide +kernel
theorem dX10_record_63 : decode cX10_record 63 = .ok (.iconst 0, 1) := by decide +kernel
theorem dX10_record_64 : decode cX10_record 64 = .ok (.istore 4, 2) := by decide +kernel
theorem dX10_record_66 : decode cX10_record 66 = .ok (.iload 4, 2) := by decide +kernel
theorem dX10_record_68 : decode cX10_record 68 = .ok (.aload_n 0, 1) := by decide +kernel
theorem dX10_record_69 : decode cX10_record 69 = .ok (.getfield 112, 3) := by decide +kernel
theorem dX10_record_72 : decode cX10_record 72 = .ok (.if_icmp .ge 43, 3) := by decide +kernel
theorem dX10_record_75 : decode cX10_record 75 = .ok (.iload_n 3, 1) := by decide +kernel
theorem dX10_record_76 : decode cX10_record 76 = .ok (.aload_n 0, 1) := by decide +kernel
theorem dX10_record_77 : decode cX10_record 77 = .ok (.getfield 105, 3) := by decide +kernel
theorem dX10_record_80 : decode cX10_record 80 = .ok (.iload 4, 2) := by decide +kernel
theorem dX10_record_82 : decode cX10_record 82 = .ok (.baload, 1) := by decide +kernel
theorem dX10_record_83 : decode cX10_record 83 = .ok (.ifCond .eq 23, 3) := by decide +kernel
theorem dX10_record_86 : decode cX10_record 86 = .ok (.iload 4, 2) := by decide +kernel
theorem dX10_record_88 : decode cX10_record 88 = .ok (.iload_n 2, 1) := by decide +kernel
theorem dX10_record_89 : decode cX10_record 89 = .ok (.if_icmp .eq 17, 3) := by decide +kernel
theorem dX10_record_92 : decode cX10_record 92 = .ok (.aload_n 0, 1) := by decide +kernel
theorem dX10_record_93 : decode cX10_record 93 = .ok (.iload 4, 2) := by decide +kernel
theorem dX10_record_95 : decode cX10_record 95 = .ok (.iload_n 2, 1) := by decide +kernel
theorem dX10_record_96 : decode cX10_record 96 = .ok (.invokevirtual 209, 3) := by decide +kernel
theorem dX10_record_99 : decode cX10_record 99 = .ok (.ifCond .eq 7, 3) := by decide +kernel
theorem dX10_record_102 : decode cX10_record 102 = .ok (.iconst 1, 1) := by decide +kernel
theorem dX10_record_103 : decode cX10_record 103 = .ok (.goto 4, 3) := by decide +kernel
theorem dX10_record_106 : decode cX10_record 106 = .ok (.iconst 0, 1) := by decide +kernel
theorem dX10_record_107 : decode cX10_record 107 = .ok (.iadd, 1) := by decide +kernel
theorem dX10_record_108 : decode cX10_record 108 = .ok (.istore_n 3, 1) := by decide +kernel
theorem dX10_record_109 : decode cX10_record 109 = .ok (.iinc 4 1, 3) := by decide +kernel
theorem dX10_record_112 : decode cX10_record 112 = .ok (.goto (-46), 3) := by decide +kernel
theorem dX10_record_115 : decode cX10_record 115 = .ok (.aload_n 0, 1) := by decide +kernel
theorem dX10_record_116 : decode cX10_record 116 = .ok (.getfield 105, 3) := by decide +kernel
theorem dX10_record_119 : decode cX10_record 119 = .ok (.iload_n 2, 1) := by decide +kernel
theorem dX10_record_120 : decode cX10_record 120 = .ok (.baload, 1) := by decide +kernel
theorem dX10_record_121 : decode cX10_record 121 = .ok (.ifCond .eq 10, 3) := by decide +kernel
theorem dX10_record_124 : decode cX10_record 124 = .ok (.iload_n 3, 1) := by decide +kernel
theorem dX10_record_125 : decode cX10_record 125 = .ok (.iload_n 1, 1) := by decide +kernel
theorem dX10_record_126 : decode cX10_record 126 = .ok (.if_icmp .ne 5, 3) := by decide +kernel
theorem dX10_record_129 : decode cX10_record 129 = .ok (.iload_n 2, 1) := by decide +kernel
theorem dX10_record_130 : decode cX10_record 130 = .ok (.ireturn, 1) := by decide +kernel
theorem dX10_record_131 : decode cX10_record 131 = .ok (.iinc 2 1, 3) := by decide +kernel
theorem dX10_record_134 : decode cX10_record 134 = .ok (.goto (-81), 3) := by decide +kernel
theorem dX10_record_137 : decode cX10_record 137 = .ok (.iconst (-1), 1) := by decide +kernel
theorem dX10_record_138 : decode cX10_record 138 = .ok (.ireturn, 1) := by decide +kernel
theorem dX10_count_0 : decode cX10_count 0 = .ok (.iconst 0, 1) := by decide +kernel
theorem dX10_count_1 : decode cX10_count 1 = .ok (.istore_n 2, 1) := by decide +kernel
theorem dX10_count_2 : decode cX10_count 2 = .ok (.iload_n 1, 1) := by decide +kernel
theorem dX10_count_3 : decode cX10_count 3 = .ok (.tableswitch 192 0 6 #[41, 46, 51, 56, 91, 96, 131], 41) := by decide +kernel
theorem dX10_count_44 : decode cX10_count 44 = .ok (.aload_n 0, 1) := by decide +kernel
theorem dX10_count_45 : decode cX10_count 45 = .ok (.getfield 7, 3) := by decide +kernel
theorem dX10_count_48 : decode cX10_count 48 = .ok (.ireturn, 1) := by decide +kernel
theorem dX10_count_49 : decode cX10_count 49 = .ok (.aload_n 0, 1) := by decide +kernel
theorem dX10_count_50 : decode cX10_count 50 = .ok (.getfield 13, 3) := by decide +kernel
theorem dX10_count_53 : decode cX10_count 53 = .ok (.ireturn, 1) := by decide +kernel
theorem dX10_count_54 : decode cX10_count 54 = .ok (.aload_n 0, 1) := by decide +kernel
theorem dX10_count_55 : decode cX10_count 55 = .ok (.getfield 112, 3) := by decide +kernel
theorem dX10_count_58 : decode cX10_count 58 = .ok (.ireturn, 1) := by decide +kernel
theorem dX10_count_59 : decode cX10_count 59 = .ok (.iconst 0, 1) := by decide +kernel
theorem dX10_count_60 : decode cX10_count 60 = .ok (.istore_n 3, 1) := by decide +kernel
theorem dX10_count_61 : decode cX10_count 61 = .ok (.iload_n 3, 1) := by decide +kernel
theorem dX10_count_62 : decode cX10_count 62 = .ok (.aload_n 0, 1) := by decide +kernel
theorem dX10_count_63 : decode cX10_count 63 = .ok (.getfield 112, 3) := by decide +kernel
theorem dX10_count_66 : decode cX10_count 66 = .ok (.if_icmp .ge 26, 3) := by decide +kernel
theorem dX10_count_69 : decode cX10_count 69 = .ok (.iload_n 2, 1) := by decide +kernel
theorem dX10_count_70 : decode cX10_count 70 = .ok (.aload_n 0, 1) := by decide +kernel
theorem dX10_count_71 : decode cX10_count 71 = .ok (.getfield 59, 3) := by decide +kernel
theorem dX10_count_74 : decode cX10_count 74 = .ok (.iload_n 3, 1) := by decide +kernel
theorem dX10_count_75 : decode cX10_count 75 = .ok (.baload, 1) := by decide +kernel
theorem dX10_count_76 : decode cX10_count 76 = .ok (.ifCond .eq 7, 3) := by decide +kernel
theorem dX10_count_79 : decode cX10_count 79 = .ok (.iconst 0, 1) := by decide +kernel
theorem dX10_count_80 : decode cX10_count 80 = .ok (.goto 4, 3) := by decide +kernel
theorem dX10_count_83 : decode cX10_count 83 = .ok (.iconst 1, 1) := by decide +kernel
theorem dX10_count_84 : decode cX10_count 84 = .ok (.iadd, 1) := by decide +kernel
theorem dX10_count_85 : decode cX10_count 85 = .ok (.istore_n 2, 1) := by decide +kernel
theorem dX10_count_86 : decode cX10_count 86 = .ok (.iinc 3 1, 3) := by decide +kernel
theorem dX10_count_89 : decode cX10_count 89 = .ok (.goto (-28), 3) := by decide +kernel
theorem dX10_count_92 : decode cX10_count 92 = .ok (.iload_n 2, 1) := by decide +kernel
theorem dX10_count_93 : decode cX10_count 93 = .ok (.ireturn, 1) := by decide +kernel
theorem dX10_count_94 : decode cX10_count 94 = .ok (.aload_n 0, 1) := by decide +kernel
theorem dX10_count_95 : decode cX10_count 95 = .ok (.getfield 115, 3) := by decide +kernel
theorem dX10_count_98 : decode cX10_count 98 = .ok (.ireturn, 1) := by decide +kernel
theorem dX10_count_99 : decode cX10_count 99 = .ok (.iconst 0, 1) := by decide +kernel
theorem dX10_count_100 : decode cX10_count 100 = .ok (.istore_n 3, 1) := by decide +kernel
theorem dX10_count_101 : decode cX10_count 101 = .ok (.iload_n 3, 1) := by decide +kernel
theorem dX10_count_102 : decode cX10_count 102 = .ok (.sipush 576, 3) := by decide +kernel
theorem dX10_count_105 : decode cX10_count 105 = .ok (.if_icmp .ge 27, 3) := by decide +kernel
theorem dX10_count_108 : decode cX10_count 108 = .ok (.iload_n 2, 1) := by decide +kernel
theorem dX10_count_109 : decode cX10_count 109 = .ok (.aload_n 0, 1) := by decide +kernel
theorem dX10_count_110 : decode cX10_count 110 = .ok (.getfield 16, 3) := by decide +kernel
theorem dX10_count_113 : decode cX10_count 113 = .ok (.iload_n 3, 1) := by decide +kernel
theorem dX10_count_114 : decode cX10_count 114 = .ok (.iaload, 1) := by decide +kernel
theorem dX10_count_115 : decode cX10_count 115 = .ok (.iconst 2, 1) := by decide +kernel
theorem dX10_count_116 : decode cX10_count 116 = .ok (.if_icmp .ne 7, 3) := by decide +kernel
theorem dX10_count_119 : decode cX10_count 119 = .ok (.iconst 1, 1) := by decide +kernel
theorem dX10_count_120 : decode cX10_count 120 = .ok (.goto 4, 3) := by decide +kernel
theorem dX10_count_123 : decode cX10_count 123 = .ok (.iconst 0, 1) := by decide +kernel
theorem dX10_count_124 : decode cX10_count 124 = .ok (.iadd, 1) := by decide +kernel
theorem dX10_count_125 : decode cX10_count 125 = .ok (.istore_n 2, 1) := by decide +kernel
theorem dX10_count_126 : decode cX10_count 126 = .ok (.iinc 3 1, 3) := by decide +kernel
theorem dX10_count_129 : decode cX10_count 129 = .ok (.goto (-28), 3) := by decide +kernel
theorem dX10_count_132 : decode cX10_count 132 = .ok (.iload_n 2, 1) := by decide +kernel
theorem dX10_count_133 : decode cX10_count 133 = .ok (.ireturn, 1) := by decide +kernel
theorem dX10_count_134 : decode cX10_count 134 = .ok (.iconst 0, 1) := by decide +kernel
theorem dX10_count_135 : decode cX10_count 135 = .ok (.istore_n 3, 1) := by decide +kernel
theorem dX10_count_136 : decode cX10_count 136 = .ok (.iload_n 3, 1) := by decide +kernel
theorem dX10_count_137 : decode cX10_count 137 = .ok (.aload_n 0, 1) := by decide +kernel
theorem dX10_count_138 : decode cX10_count 138 = .ok (.getfield 112, 3) := by decide +kernel
theorem dX10_count_141 : decode cX10_count 141 = .ok (.if_icmp .ge 52, 3) := by decide +kernel
theorem dX10_count_144 : decode cX10_count 144 = .ok (.iconst 0, 1) := by decide +kernel
theorem dX10_count_145 : decode cX10_count 145 = .ok (.istore 4, 2) := by decide +kernel
theorem dX10_count_147 : decode cX10_count 147 = .ok (.iload 4, 2) := by decide +kernel
theorem dX10_count_149 : decode cX10_count 149 = .ok (.aload_n 0, 1) := by decide +kernel
theorem dX10_count_150 : decode cX10_count 150 = .ok (.getfield 66, 3) := by decide +kernel
theorem dX10_count_153 : decode cX10_count 153 = .ok (.iload_n 3, 1) := by decide +kernel
theorem dX10_count_154 : decode cX10_count 154 = .ok (.iaload, 1) := by decide +kernel
theorem dX10_count_155 : decode cX10_count 155 = .ok (.if_icmp .ge 32, 3) := by decide +kernel
theorem dX10_count_158 : decode cX10_count 158 = .ok (.iload_n 2, 1) := by decide +kernel
theorem dX10_count_159 : decode cX10_count 159 = .ok (.aload_n 0, 1) := by decide +kernel
theorem dX10_count_160 : decode cX10_count 160 = .ok (.getfield 75, 3) := by decide +kernel
theorem dX10_count_163 : decode cX10_count 163 = .ok (.bipush 61, 2) := by decide +kernel
theorem dX10_count_165 : decode cX10_count 165 = .ok (.iload_n 3, 1) := by decide +kernel
theorem dX10_count_166 : decode cX10_count 166 = .ok (.imul, 1) := by decide +kernel
theorem dX10_count_167 : decode cX10_count 167 = .ok (.iload 4, 2) := by decide +kernel
theorem dX10_count_169 : decode cX10_count 169 = .ok (.iadd, 1) := by decide +kernel
theorem dX10_count_170 : decode cX10_count 170 = .ok (.baload, 1) := by decide +kernel
theorem dX10_count_171 : decode cX10_count 171 = .ok (.ifCond .eq 7, 3) := by decide +kernel
theorem dX10_count_174 : decode cX10_count 174 = .ok (.iconst 1, 1) := by decide +kernel
theorem dX10_count_175 : decode cX10_count 175 = .ok (.goto 4, 3) := by decide +kernel
theorem dX10_count_178 : decode cX10_count 178 = .ok (.iconst 0, 1) := by decide +kernel
theorem dX10_count_179 : decode cX10_count 179 = .ok (.iadd, 1) := by decide +kernel
theorem dX10_count_180 : decode cX10_count 180 = .ok (.istore_n 2, 1) := by decide +kernel
theorem dX10_count_181 : decode cX10_count 181 = .ok (.iinc 4 1, 3) := by decide +kernel
theorem dX10_count_184 : decode cX10_count 184 = .ok (.goto (-37), 3) := by decide +kernel
theorem dX10_count_187 : decode cX10_count 187 = .ok (.iinc 3 1, 3) := by decide +kernel
theorem dX10_count_190 : decode cX10_count 190 = .ok (.goto (-54), 3) := by decide +kernel
theorem dX10_count_193 : decode cX10_count 193 = .ok (.iload_n 2, 1) := by decide +kernel
theorem dX10_count_194 : decode cX10_count 194 = .ok (.ireturn, 1) := by decide +kernel
theorem dX10_count_195 : decode cX10_count 195 = .ok (.bipush (-2), 2) := by decide +kernel
theorem dX10_count_197 : decode cX10_count 197 = .ok (.ireturn, 1) := by decide +kernel
set_option maxRecDepth 20000 in
theorem ggX10_digest_X10_count : GoodIn wsX10_digest wsX10_count := goodIn_r _ [12, 13, 14, 3, 15, 5, 16, 4, 17, 46, 47, 48, 49, 50, 51, 52, 53, 54, 55, 56, 57, 58, 59, 60, 61, 62, 63, 64, 65, 66, 67, 68, 69, 70, 71, 72, 73, 74, 75, 76, 77, 78, 79, 80, 81, 82, 83, 84, 85, 86, 87, 88] (by decide +kernel) (by decide +kernel)
set_option maxRecDepth 20000 in
theorem gX10_digest_X10_count : GoodIn wsX10_digest (wsV RX10 216 RX10 yX10_count wsX10_count) := goodIn_app (goodIn_of _ (by decide +kernel)) ggX10_digest_X10_count
set_option maxRecDepth 20000 in
theorem ggX10_digest_X10_about : GoodIn wsX10_digest wsX10_about := goodIn_r _ [21, 22, 23, 24, 25, 26, 27, 28, 15, 4, 29, 30, 31, 32, 33, 34, 35, 11, 36, 3, 37, 38, 39, 46, 47, 48, 49, 50, 51, 52, 53, 54, 55, 56, 57, 58, 59, 60, 61, 62, 63, 64, 65, 66, 67, 68, 69, 70, 71, 72, 73, 74, 75, 76, 77, 78, 79, 80, 81, 82, 83, 84, 85, 86, 87, 88] (by decide +kernel) (by decide +kernel)
set_option maxRecDepth 20000 in
theorem gX10_digest_X10_about : GoodIn wsX10_digest (wsV RX10 219 RX10 yX10_about wsX10_about) := goodIn_app (goodIn_of _ (by decide +kernel)) ggX10_digest_X10_about
set_option maxRecDepth 20000 in
theorem ggX10_digest_X10_entry : GoodIn wsX10_digest wsX10_entry := goodIn_r _ [43, 4, 17, 44, 45, 33, 34, 35, 11, 36, 3, 37, 38, 39, 46, 47, 48, 49, 50, 51, 52, 53, 54, 55, 56, 57, 58, 59, 60, 61, 62, 63, 64, 65, 66, 67, 68, 69, 70, 71, 72, 73, 74, 75, 76, 77, 78, 79, 80, 81, 82, 83, 84, 85, 86, 87, 88] (by decide +kernel) (by decide +kernel)
set_option maxRecDepth 20000 in
theorem gX10_digest_X10_entry : GoodIn wsX10_digest (wsV RX10 222 RX10 yX10_entry wsX10_entry) := goodIn_app (goodIn_of _ (by decide +kernel)) ggX10_digest_X10_entry
theorem dX10_digest_0 : decode cX10_digest 0 = .ok (.ldc2_w 212, 3) := by decide +kernel
theorem dX10_digest_3 : decode cX10_digest 3 = .ok (.lstore_n 1, 1) := by decide +kernel
theorem dX10_digest_4 : decode cX10_digest 4 = .ok (.iconst 0, 1) := by decide +kernel
theorem dX10_digest_5 : decode cX10_digest 5 = .ok (.istore_n 3, 1) := by decide +kernel
theorem dX10_digest_6 : decode cX10_digest 6 = .ok (.iload_n 3, 1) := by decide +kernel
theorem dX10_digest_7 : decode cX10_digest 7 = .ok (.bipush 7, 2) := by decide +kernel
theorem dX10_digest_9 : decode cX10_digest 9 = .ok (.if_icmp .ge 22, 3) := by decide +kernel
theorem dX10_digest_12 : decode cX10_digest 12 = .ok (.ldc2_w 214, 3) := by decide +kernel
theorem dX10_digest_15 : decode cX10_digest 15 = .ok (.lload_n 1, 1) := by decide +kernel
theorem dX10_digest_16 : decode cX10_digest 16 = .ok (.lmul, 1) := by decide +kernel
theorem dX10_digest_17 : decode cX10_digest 17 = .ok (.aload_n 0, 1) := by decide +kernel
theorem dX10_digest_18 : decode cX10_digest 18 = .ok (.iload_n 3, 1) := by decide +kernel
theorem dX10_digest_19 : decode cX10_digest 19 = .ok (.invokevirtual 216, 3) := by decide +kernel
theorem dX10_digest_22 : decode cX10_digest 22 = .ok (.i2l, 1) := by decide +kernel
theorem dX10_digest_23 : decode cX10_digest 23 = .ok (.ladd, 1) := by decide +kernel
theorem dX10_digest_24 : decode cX10_digest 24 = .ok (.lstore_n 1, 1) := by decide +kernel
theorem dX10_digest_25 : decode cX10_digest 25 = .ok (.iinc 3 1, 3) := by decide +kernel
theorem dX10_digest_28 : decode cX10_digest 28 = .ok (.goto (-22), 3) := by decide +kernel
theorem dX10_digest_31 : decode cX10_digest 31 = .ok (.iconst 0, 1) := by decide +kernel
theorem dX10_digest_32 : decode cX10_digest 32 = .ok (.istore_n 3, 1) := by decide +kernel
theorem dX10_digest_33 : decode cX10_digest 33 = .ok (.iload_n 3, 1) := by decide +kernel
theorem dX10_digest_34 : decode cX10_digest 34 = .ok (.aload_n 0, 1) := by decide +kernel
theorem dX10_digest_35 : decode cX10_digest 35 = .ok (.getfield 112, 3) := by decide +kernel
theorem dX10_digest_38 : decode cX10_digest 38 = .ok (.if_icmp .ge 92, 3) := by decide +kernel
theorem dX10_digest_41 : decode cX10_digest 41 = .ok (.iconst 0, 1) := by decide +kernel
theorem dX10_digest_42 : decode cX10_digest 42 = .ok (.istore 4, 2) := by decide +kernel
theorem dX10_digest_44 : decode cX10_digest 44 = .ok (.iload 4, 2) := by decide +kernel
theorem dX10_digest_46 : decode cX10_digest 46 = .ok (.bipush 10, 2) := by decide +kernel
theorem dX10_digest_48 : decode cX10_digest 48 = .ok (.if_icmp .ge 24, 3) := by decide +kernel
theorem dX10_digest_51 : decode cX10_digest 51 = .ok (.ldc2_w 214, 3) := by decide +kernel
theorem dX10_digest_54 : decode cX10_digest 54 = .ok (.lload_n 1, 1) := by decide +kernel
theorem dX10_digest_55 : decode cX10_digest 55 = .ok (.lmul, 1) := by decide +kernel
theorem dX10_digest_56 : decode cX10_digest 56 = .ok (.aload_n 0, 1) := by decide +kernel
theorem dX10_digest_57 : decode cX10_digest 57 = .ok (.iload_n 3, 1) := by decide +kernel
theorem dX10_digest_58 : decode cX10_digest 58 = .ok (.iload 4, 2) := by decide +kernel
theorem dX10_digest_60 : decode cX10_digest 60 = .ok (.invokevirtual 219, 3) := by decide +kernel
theorem dX10_digest_63 : decode cX10_digest 63 = .ok (.i2l, 1) := by decide +kernel
theorem dX10_digest_64 : decode cX10_digest 64 = .ok (.ladd, 1) := by decide +kernel
theorem dX10_digest_65 : decode cX10_digest 65 = .ok (.lstore_n 1, 1) := by decide +kernel
theorem dX10_digest_66 : decode cX10_digest 66 = .ok (.iinc 4 1, 3) := by decide +kernel
theorem dX10_digest_69 : decode cX10_digest 69 = .ok (.goto (-25), 3) := by decide +kernel
theorem dX10_digest_72 : decode cX10_digest 72 = .ok (.iconst 0, 1) := by decide +kernel
theorem dX10_digest_73 : decode cX10_digest 73 = .ok (.istore 4, 2) := by decide +kernel
theorem dX10_digest_75 : decode cX10_digest 75 = .ok (.iload 4, 2) := by decide +kernel
theorem dX10_digest_77 : decode cX10_digest 77 = .ok (.aload_n 0, 1) := by decide +kernel
theorem dX10_digest_78 : decode cX10_digest 78 = .ok (.getfield 66, 3) := by decide +kernel
theorem dX10_digest_81 : decode cX10_digest 81 = .ok (.iload_n 3, 1) := by decide +kernel
theorem dX10_digest_82 : decode cX10_digest 82 = .ok (.iaload, 1) := by decide +kernel
theorem dX10_digest_83 : decode cX10_digest 83 = .ok (.if_icmp .ge 41, 3) := by decide +kernel
theorem dX10_digest_86 : decode cX10_digest 86 = .ok (.iconst 0, 1) := by decide +kernel
theorem dX10_digest_87 : decode cX10_digest 87 = .ok (.istore 5, 2) := by decide +kernel
theorem dX10_digest_89 : decode cX10_digest 89 = .ok (.iload 5, 2) := by decide +kernel
theorem dX10_digest_91 : decode cX10_digest 91 = .ok (.iconst 3, 1) := by decide +kernel
theorem dX10_digest_92 : decode cX10_digest 92 = .ok (.if_icmp .ge 26, 3) := by decide +kernel
theorem dX10_digest_95 : decode cX10_digest 95 = .ok (.ldc2_w 214, 3) := by decide +kernel
theorem dX10_digest_98 : decode cX10_digest 98 = .ok (.lload_n 1, 1) := by decide +kernel
theorem dX10_digest_99 : decode cX10_digest 99 = .ok (.lmul, 1) := by decide +kernel
theorem dX10_digest_100 : decode cX10_digest 100 = .ok (.aload_n 0, 1) := by decide +kernel
theorem dX10_digest_101 : decode cX10_digest 101 = .ok (.iload_n 3, 1) := by decide +kernel
theorem dX10_digest_102 : decode cX10_digest 102 = .ok (.iload 4, 2) := by decide +kernel
theorem dX10_digest_104 : decode cX10_digest 104 = .ok (.iload 5, 2) := by decide +kernel
theorem dX10_digest_106 : decode cX10_digest 106 = .ok (.invokevirtual 222, 3) := by decide +kernel
theorem dX10_digest_109 : decode cX10_digest 109 = .ok (.i2l, 1) := by decide +kernel
theorem dX10_digest_110 : decode cX10_digest 110 = .ok (.ladd, 1) := by decide +kernel
theorem dX10_digest_111 : decode cX10_digest 111 = .ok (.lstore_n 1, 1) := by decide +kernel
theorem dX10_digest_112 : decode cX10_digest 112 = .ok (.iinc 5 1, 3) := by decide +kernel
theorem dX10_digest_115 : decode cX10_digest 115 = .ok (.goto (-26), 3) := by decide +kernel
theorem dX10_digest_118 : decode cX10_digest 118 = .ok (.iinc 4 1, 3) := by decide +kernel
theorem dX10_digest_121 : decode cX10_digest 121 = .ok (.goto (-46), 3) := by decide +kernel
theorem dX10_digest_124 : decode cX10_digest 124 = .ok (.iinc 3 1, 3) := by decide +kernel
theorem dX10_digest_127 : decode cX10_digest 127 = .ok (.goto (-94), 3) := by decide +kernel
theorem dX10_digest_130 : decode cX10_digest 130 = .ok (.iconst 0, 1) := by decide +kernel
theorem dX10_digest_131 : decode cX10_digest 131 = .ok (.istore_n 3, 1) := by decide +kernel
theorem dX10_digest_132 : decode cX10_digest 132 = .ok (.iload_n 3, 1) := by decide +kernel
theorem dX10_digest_133 : decode cX10_digest 133 = .ok (.aload_n 0, 1) := by decide +kernel
theorem dX10_digest_134 : decode cX10_digest 134 = .ok (.getfield 115, 3) := by decide +kernel
theorem dX10_digest_137 : decode cX10_digest 137 = .ok (.if_icmp .ge 35, 3) := by decide +kernel
theorem dX10_digest_140 : decode cX10_digest 140 = .ok (.ldc2_w 214, 3) := by decide +kernel
theorem dX10_digest_143 : decode cX10_digest 143 = .ok (.ldc2_w 214, 3) := by decide +kernel
theorem dX10_digest_146 : decode cX10_digest 146 = .ok (.lload_n 1, 1) := by decide +kernel
theorem dX10_digest_147 : decode cX10_digest 147 = .ok (.lmul, 1) := by decide +kernel
theorem dX10_digest_148 : decode cX10_digest 148 = .ok (.aload_n 0, 1) := by decide +kernel
theorem dX10_digest_149 : decode cX10_digest 149 = .ok (.getfield 78, 3) := by decide +kernel
theorem dX10_digest_152 : decode cX10_digest 152 = .ok (.iload_n 3, 1) := by decide +kernel
theorem dX10_digest_153 : decode cX10_digest 153 = .ok (.iaload, 1) := by decide +kernel
theorem dX10_digest_154 : decode cX10_digest 154 = .ok (.i2l, 1) := by decide +kernel
theorem dX10_digest_155 : decode cX10_digest 155 = .ok (.ladd, 1) := by decide +kernel
theorem dX10_digest_156 : decode cX10_digest 156 = .ok (.lmul, 1) := by decide +kernel
theorem dX10_digest_157 : decode cX10_digest 157 = .ok (.aload_n 0, 1) := by decide +kernel
theorem dX10_digest_158 : decode cX10_digest 158 = .ok (.getfield 81, 3) := by decide +kernel
theorem dX10_digest_161 : decode cX10_digest 161 = .ok (.iload_n 3, 1) := by decide +kernel
theorem dX10_digest_162 : decode cX10_digest 162 = .ok (.iaload, 1) := by decide +kernel
theorem dX10_digest_163 : decode cX10_digest 163 = .ok (.i2l, 1) := by decide +kernel
theorem dX10_digest_164 : decode cX10_digest 164 = .ok (.ladd, 1) := by decide +kernel
theorem dX10_digest_165 : decode cX10_digest 165 = .ok (.lstore_n 1, 1) := by decide +kernel
theorem dX10_digest_166 : decode cX10_digest 166 = .ok (.iinc 3 1, 3) := by decide +kernel
theorem dX10_digest_169 : decode cX10_digest 169 = .ok (.goto (-37), 3) := by decide +kernel
theorem dX10_digest_172 : decode cX10_digest 172 = .ok (.lload_n 1, 1) := by decide +kernel
theorem dX10_digest_173 : decode cX10_digest 173 = .ok (.lreturn, 1) := by decide +kernel
theorem dJ9_max_7cf53_0 : decode cJ9_max_7cf53 0 = .ok (.iload_n 0, 1) := by decide +kernel
theorem dJ9_max_7cf53_1 : decode cJ9_max_7cf53 1 = .ok (.iload_n 1, 1) := by decide +kernel
theorem dJ9_max_7cf53_2 : decode cJ9_max_7cf53 2 = .ok (.if_icmp .lt 7, 3) := by decide +kernel
theorem dJ9_max_7cf53_5 : decode cJ9_max_7cf53 5 = .ok (.iload_n 0, 1) := by decide +kernel
theorem dJ9_max_7cf53_6 : decode cJ9_max_7cf53 6 = .ok (.goto 4, 3) := by decide +kernel
theorem dJ9_max_7cf53_9 : decode cJ9_max_7cf53 9 = .ok (.iload_n 1, 1) := by decide +kernel
theorem dJ9_max_7cf53_10 : decode cJ9_max_7cf53 10 = .ok (.ireturn, 1) := by decide +kernel
theorem dJ9_min_7cf53_0 : decode cJ9_min_7cf53 0 = .ok (.iload_n 0, 1) := by decide +kernel
theorem dJ9_min_7cf53_1 : decode cJ9_min_7cf53 1 = .ok (.iload_n 1, 1) := by decide +kernel
theorem dJ9_min_7cf53_2 : decode cJ9_min_7cf53 2 = .ok (.if_icmp .gt 7, 3) := by decide +kernel
theorem dJ9_min_7cf53_5 : decode cJ9_min_7cf53 5 = .ok (.iload_n 0, 1) := by decide +kernel
theorem dJ9_min_7cf53_6 : decode cJ9_min_7cf53 6 = .ok (.goto 4, 3) := by decide +kernel
theorem dJ9_min_7cf53_9 : decode cJ9_min_7cf53 9 = .ok (.iload_n 1, 1) := by decide +kernel
theorem dJ9_min_7cf53_10 : decode cJ9_min_7cf53 10 = .ok (.ireturn, 1) := by decide +kernel
theorem dJ7_fill_53178_0 : decode cJ7_fill_53178 0 = .ok (.iconst 0, 1) := by decide +kernel
theorem dJ7_fill_53178_1 : decode cJ7_fill_53178 1 = .ok (.istore_n 2, 1) := by decide +kernel
theorem dJ7_fill_53178_2 : decode cJ7_fill_53178 2 = .ok (.aload_n 0, 1) := by decide +kernel
theorem dJ7_fill_53178_3 : decode cJ7_fill_53178 3 = .ok (.arraylength, 1) := by decide +kernel
theorem dJ7_fill_53178_4 : decode cJ7_fill_53178 4 = .ok (.istore_n 3, 1) := by decide +kernel
theorem dJ7_fill_53178_5 : decode cJ7_fill_53178 5 = .ok (.iload_n 2, 1) := by decide +kernel
theorem dJ7_fill_53178_6 : decode cJ7_fill_53178 6 = .ok (.iload_n 3, 1) := by decide +kernel
theorem dJ7_fill_53178_7 : decode cJ7_fill_53178 7 = .ok (.if_icmp .ge 13, 3) := by decide +kernel
theorem dJ7_fill_53178_10 : decode cJ7_fill_53178 10 = .ok (.aload_n 0, 1) := by decide +kernel
theorem dJ7_fill_53178_11 : decode cJ7_fill_53178 11 = .ok (.iload_n 2, 1) := by decide +kernel
theorem dJ7_fill_53178_12 : decode cJ7_fill_53178 12 = .ok (.iload_n 1, 1) := by decide +kernel
theorem dJ7_fill_53178_13 : decode cJ7_fill_53178 13 = .ok (.iastore, 1) := by decide +kernel
theorem dJ7_fill_53178_14 : decode cJ7_fill_53178 14 = .ok (.iinc 2 1, 3) := by decide +kernel
theorem dJ7_fill_53178_17 : decode cJ7_fill_53178 17 = .ok (.goto (-12), 3) := by decide +kernel
theorem dJ7_fill_53178_20 : decode cJ7_fill_53178 20 = .ok (.return_, 1) := by decide +kernel

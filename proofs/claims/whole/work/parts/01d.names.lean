set_option maxRecDepth 20000 in
theorem gX9_about_X1_liftLessWeight : GoodIn wsX9_about (wsV RX9 164 RX1 yX1_liftLessWeight wsX1_liftLessWeight) := goodIn_app (goodIn_of _ (by decide +kernel)) ggX9_about_X1_liftLessWeight
theorem dX9_about_0 : decode cX9_about 0 = .ok (.aload_n 0, 1) := by decide +kernel
theorem dX9_about_1 : decode cX9_about 1 = .ok (.iload_n 1, 1) := by decide +kernel
theorem dX9_about_2 : decode cX9_about 2 = .ok (.invokevirtual 118, 3) := by decide +kernel
theorem dX9_about_5 : decode cX9_about 5 = .ok (.ifCond .ne 6, 3) := by decide +kernel
theorem dX9_about_8 : decode cX9_about 8 = .ok (.ldc 141, 2) := by decide +kernel
theorem dX9_about_10 : decode cX9_about 10 = .ok (.ireturn, 1) := by decide +kernel
theorem dX9_about_11 : decode cX9_about 11 = .ok (.aload_n 0, 1) := by decide +kernel
theorem dX9_about_12 : decode cX9_about 12 = .ok (.getfield 25, 3) := by decide +kernel
theorem dX9_about_15 : decode cX9_about 15 = .ok (.iload_n 1, 1) := by decide +kernel
theorem dX9_about_16 : decode cX9_about 16 = .ok (.aaload, 1) := by decide +kernel
theorem dX9_about_17 : decode cX9_about 17 = .ok (.astore_n 3, 1) := by decide +kernel
theorem dX9_about_18 : decode cX9_about 18 = .ok (.aload_n 3, 1) := by decide +kernel
theorem dX9_about_19 : decode cX9_about 19 = .ok (.getfield 121, 3) := by decide +kernel
theorem dX9_about_22 : decode cX9_about 22 = .ok (.astore 4, 2) := by decide +kernel
theorem dX9_about_24 : decode cX9_about 24 = .ok (.iload_n 2, 1) := by decide +kernel
theorem dX9_about_25 : decode cX9_about 25 = .ok (.tableswitch 132 0 9 #[55, 64, 73, 79, 85, 91, 97, 111, 116, 126], 55) := by decide +kernel
theorem dX9_about_80 : decode cX9_about 80 = .ok (.aload 4, 2) := by decide +kernel
theorem dX9_about_82 : decode cX9_about 82 = .ok (.getfield 142, 3) := by decide +kernel
theorem dX9_about_85 : decode cX9_about 85 = .ok (.invokestatic 145, 3) := by decide +kernel
theorem dX9_about_88 : decode cX9_about 88 = .ok (.ireturn, 1) := by decide +kernel
theorem dX9_about_89 : decode cX9_about 89 = .ok (.aload 4, 2) := by decide +kernel
theorem dX9_about_91 : decode cX9_about 91 = .ok (.getfield 142, 3) := by decide +kernel
theorem dX9_about_94 : decode cX9_about 94 = .ok (.invokestatic 149, 3) := by decide +kernel
theorem dX9_about_97 : decode cX9_about 97 = .ok (.ireturn, 1) := by decide +kernel
theorem dX9_about_98 : decode cX9_about 98 = .ok (.aload 4, 2) := by decide +kernel
theorem dX9_about_100 : decode cX9_about 100 = .ok (.getfield 152, 3) := by decide +kernel
theorem dX9_about_103 : decode cX9_about 103 = .ok (.ireturn, 1) := by decide +kernel
theorem dX9_about_104 : decode cX9_about 104 = .ok (.aload 4, 2) := by decide +kernel
theorem dX9_about_106 : decode cX9_about 106 = .ok (.getfield 155, 3) := by decide +kernel
theorem dX9_about_109 : decode cX9_about 109 = .ok (.ireturn, 1) := by decide +kernel
theorem dX9_about_110 : decode cX9_about 110 = .ok (.aload 4, 2) := by decide +kernel
theorem dX9_about_112 : decode cX9_about 112 = .ok (.getfield 158, 3) := by decide +kernel
theorem dX9_about_115 : decode cX9_about 115 = .ok (.ireturn, 1) := by decide +kernel
theorem dX9_about_116 : decode cX9_about 116 = .ok (.aload 4, 2) := by decide +kernel
theorem dX9_about_118 : decode cX9_about 118 = .ok (.getfield 161, 3) := by decide +kernel
theorem dX9_about_121 : decode cX9_about 121 = .ok (.ireturn, 1) := by decide +kernel
theorem dX9_about_122 : decode cX9_about 122 = .ok (.aload 4, 2) := by decide +kernel
theorem dX9_about_124 : decode cX9_about 124 = .ok (.getfield 125, 3) := by decide +kernel
theorem dX9_about_127 : decode cX9_about 127 = .ok (.ifCond .eq 7, 3) := by decide +kernel
theorem dX9_about_130 : decode cX9_about 130 = .ok (.iconst 1, 1) := by decide +kernel
theorem dX9_about_131 : decode cX9_about 131 = .ok (.goto 4, 3) := by decide +kernel
theorem dX9_about_134 : decode cX9_about 134 = .ok (.iconst 0, 1) := by decide +kernel
theorem dX9_about_135 : decode cX9_about 135 = .ok (.ireturn, 1) := by decide +kernel
theorem dX9_about_136 : decode cX9_about 136 = .ok (.aload_n 3, 1) := by decide +kernel
theorem dX9_about_137 : decode cX9_about 137 = .ok (.getfield 131, 3) := by decide +kernel
theorem dX9_about_140 : decode cX9_about 140 = .ok (.ireturn, 1) := by decide +kernel
theorem dX9_about_141 : decode cX9_about 141 = .ok (.aload 4, 2) := by decide +kernel
theorem dX9_about_143 : decode cX9_about 143 = .ok (.aload_n 0, 1) := by decide +kernel
theorem dX9_about_144 : decode cX9_about 144 = .ok (.getfield 19, 3) := by decide +kernel
theorem dX9_about_147 : decode cX9_about 147 = .ok (.invokevirtual 164, 3) := by decide +kernel
theorem dX9_about_150 : decode cX9_about 150 = .ok (.ireturn, 1) := by decide +kernel
theorem dX9_about_151 : decode cX9_about 151 = .ok (.aload 4, 2) := by decide +kernel
theorem dX9_about_153 : decode cX9_about 153 = .ok (.getfield 168, 3) := by decide +kernel
theorem dX9_about_156 : decode cX9_about 156 = .ok (.ireturn, 1) := by decide +kernel
theorem dX9_about_157 : decode cX9_about 157 = .ok (.ldc 141, 2) := by decide +kernel
theorem dX9_about_159 : decode cX9_about 159 = .ok (.ireturn, 1) := by decide +kernel
set_option maxRecDepth 20000 in
theorem ggX9_distance_X9_isFlight : GoodIn wsX9_distance wsX9_isFlight := goodIn_r _ [6, 7, 8, 9, 5, 10, 27, 28, 29, 30, 31, 32, 33, 34] (by decide +kernel) (by decide +kernel)
set_option maxRecDepth 20000 in
theorem gX9_distance_X9_isFlight : GoodIn wsX9_distance (wsV RX9 118 RX9 yX9_isFlight wsX9_isFlight) := goodIn_app (goodIn_of _ (by decide +kernel)) ggX9_distance_X9_isFlight
set_option maxRecDepth 20000 in
theorem ggX9_distance_X3_flown : GoodIn wsX9_distance wsX3_flown := goodIn_r _ [15, 16, 17, 18, 19, 5, 20, 21, 22, 23, 24, 25, 26, 35, 36, 37, 38, 39, 40, 41, 42, 43, 44, 45, 46, 47, 48, 49] (by decide +kernel) (by decide +kernel)
set_option maxRecDepth 20000 in
theorem gX9_distance_X3_flown : GoodIn wsX9_distance (wsV RX9 171 RX3 yX3_flown wsX3_flown) := goodIn_app (goodIn_of _ (by decide +kernel)) ggX9_distance_X3_flown
theorem dX9_distance_0 : decode cX9_distance 0 = .ok (.aload_n 0, 1) := by decide +kernel
theorem dX9_distance_1 : decode cX9_distance 1 = .ok (.iload_n 1, 1) := by decide +kernel
theorem dX9_distance_2 : decode cX9_distance 2 = .ok (.invokevirtual 118, 3) := by decide +kernel
theorem dX9_distance_5 : decode cX9_distance 5 = .ok (.ifCond .ne 6, 3) := by decide +kernel
theorem dX9_distance_8 : decode cX9_distance 8 = .ok (.bipush (-2), 2) := by decide +kernel
theorem dX9_distance_10 : decode cX9_distance 10 = .ok (.ireturn, 1) := by decide +kernel
theorem dX9_distance_11 : decode cX9_distance 11 = .ok (.aload_n 0, 1) := by decide +kernel
theorem dX9_distance_12 : decode cX9_distance 12 = .ok (.getfield 25, 3) := by decide +kernel
theorem dX9_distance_15 : decode cX9_distance 15 = .ok (.iload_n 1, 1) := by decide +kernel
theorem dX9_distance_16 : decode cX9_distance 16 = .ok (.aaload, 1) := by decide +kernel
theorem dX9_distance_17 : decode cX9_distance 17 = .ok (.invokevirtual 171, 3) := by decide +kernel
theorem dX9_distance_20 : decode cX9_distance 20 = .ok (.ireturn, 1) := by decide +kernel
set_option maxRecDepth 20000 in
theorem ggX9_plan_X9_mayPlan : GoodIn wsX9_plan wsX9_mayPlan := goodIn_r _ [10, 11, 12, 13, 9, 14, 15, 16, 17, 18, 128, 129, 130, 131, 132, 133, 134, 135] (by decide +kernel) (by decide +kernel)
set_option maxRecDepth 20000 in
theorem gX9_plan_X9_mayPlan : GoodIn wsX9_plan (wsV RX9 175 RX9 yX9_mayPlan wsX9_mayPlan) := goodIn_app (goodIn_of _ (by decide +kernel)) ggX9_plan_X9_mayPlan
set_option maxRecDepth 20000 in
theorem ggX9_plan_X5_has : GoodIn wsX9_plan wsX5_has := goodIn_r _ [23, 24, 25, 17, 9, 18, 151, 152, 153] (by decide +kernel) (by decide +kernel)
set_option maxRecDepth 20000 in
theorem gX9_plan_X5_has : GoodIn wsX9_plan (wsV RX9 80 RX5 yX5_has wsX5_has) := goodIn_app (goodIn_of _ (by decide +kernel)) ggX9_plan_X5_has
set_option maxRecDepth 20000 in
theorem ggX9_plan_X9_cellOf : GoodIn wsX9_plan wsX9_cellOf := goodIn_r _ [28] (by decide +kernel) (by decide +kernel)
set_option maxRecDepth 20000 in
theorem gX9_plan_X9_cellOf : GoodIn wsX9_plan (va_wsS RX9 84 yX9_cellOf wsX9_cellOf) := goodIn_app (goodIn_of _ (by decide +kernel)) ggX9_plan_X9_cellOf
set_option maxRecDepth 20000 in
theorem ggX9_plan_X6_best : GoodIn wsX9_plan wsX6_best := goodIn_r _ [33, 34, 35, 36, 37, 38, 39, 40, 41, 42, 43, 44, 45, 46, 47, 48, 49, 50, 51, 52, 53, 54, 55, 32, 56, 57, 58, 59, 60, 61, 62, 63, 64, 65, 66, 67, 68, 69, 9, 70, 71, 72, 73, 74, 75, 76, 77, 78, 79, 80, 81, 82, 83, 84, 85, 86, 87, 88, 89, 90, 91, 92, 93, 94, 95, 96, 97, 98, 99, 100, 101, 102, 103, 104, 105, 106, 107, 108, 109, 110, 111, 112, 113, 114, 115, 116, 117, 118, 119, 120, 22, 121, 122, 20, 21, 23, 24, 25, 17, 18, 27, 28, 123, 124, 125, 126, 127, 154, 155, 156, 157, 158, 159, 160, 161, 162, 163, 164, 143, 144, 145, 146, 147, 148, 149, 150, 165, 166, 167, 168, 169, 170, 171, 151, 152, 153] (by decide +kernel) (by decide +kernel)
set_option maxRecDepth 20000 in
theorem gX9_plan_X6_best : GoodIn wsX9_plan (wsV RX9 178 RX6 yX6_best wsX6_best) := goodIn_app (goodIn_of _ (by decide +kernel)) ggX9_plan_X6_best
theorem dX9_plan_0 : decode cX9_plan 0 = .ok (.aload_n 0, 1) := by decide +kernel
theorem dX9_plan_1 : decode cX9_plan 1 = .ok (.iload_n 1, 1) := by decide +kernel
theorem dX9_plan_2 : decode cX9_plan 2 = .ok (.iload_n 2, 1) := by decide +kernel
theorem dX9_plan_3 : decode cX9_plan 3 = .ok (.iload_n 3, 1) := by decide +kernel
theorem dX9_plan_4 : decode cX9_plan 4 = .ok (.invokevirtual 175, 3) := by decide +kernel
theorem dX9_plan_7 : decode cX9_plan 7 = .ok (.ifCond .eq 17, 3) := by decide +kernel
theorem dX9_plan_10 : decode cX9_plan 10 = .ok (.aload_n 0, 1) := by decide +kernel
theorem dX9_plan_11 : decode cX9_plan 11 = .ok (.getfield 12, 3) := by decide +kernel
theorem dX9_plan_14 : decode cX9_plan 14 = .ok (.iload 4, 2) := by decide +kernel
theorem dX9_plan_16 : decode cX9_plan 16 = .ok (.iload 5, 2) := by decide +kernel
theorem dX9_plan_18 : decode cX9_plan 18 = .ok (.invokevirtual 80, 3) := by decide +kernel
theorem dX9_plan_21 : decode cX9_plan 21 = .ok (.ifCond .ne 6, 3) := by decide +kernel
theorem dX9_plan_24 : decode cX9_plan 24 = .ok (.bipush (-2), 2) := by decide +kernel
theorem dX9_plan_26 : decode cX9_plan 26 = .ok (.ireturn, 1) := by decide +kernel
theorem dX9_plan_27 : decode cX9_plan 27 = .ok (.aload_n 0, 1) := by decide +kernel
theorem dX9_plan_28 : decode cX9_plan 28 = .ok (.getfield 25, 3) := by decide +kernel
theorem dX9_plan_31 : decode cX9_plan 31 = .ok (.iload_n 1, 1) := by decide +kernel
theorem dX9_plan_32 : decode cX9_plan 32 = .ok (.aaload, 1) := by decide +kernel
theorem dX9_plan_33 : decode cX9_plan 33 = .ok (.getfield 121, 3) := by decide +kernel
theorem dX9_plan_36 : decode cX9_plan 36 = .ok (.astore 6, 2) := by decide +kernel
theorem dX9_plan_38 : decode cX9_plan 38 = .ok (.aload 6, 2) := by decide +kernel
theorem dX9_plan_40 : decode cX9_plan 40 = .ok (.getfield 125, 3) := by decide +kernel
theorem dX9_plan_43 : decode cX9_plan 43 = .ok (.ifCond .eq 6, 3) := by decide +kernel
theorem dX9_plan_46 : decode cX9_plan 46 = .ok (.bipush (-3), 2) := by decide +kernel
theorem dX9_plan_48 : decode cX9_plan 48 = .ok (.ireturn, 1) := by decide +kernel
theorem dX9_plan_49 : decode cX9_plan 49 = .ok (.aload_n 0, 1) := by decide +kernel
theorem dX9_plan_50 : decode cX9_plan 50 = .ok (.getfield 42, 3) := by decide +kernel
theorem dX9_plan_53 : decode cX9_plan 53 = .ok (.aload 6, 2) := by decide +kernel
theorem dX9_plan_55 : decode cX9_plan 55 = .ok (.iload_n 2, 1) := by decide +kernel
theorem dX9_plan_56 : decode cX9_plan 56 = .ok (.iload_n 3, 1) := by decide +kernel
theorem dX9_plan_57 : decode cX9_plan 57 = .ok (.iload 4, 2) := by decide +kernel
theorem dX9_plan_59 : decode cX9_plan 59 = .ok (.iload 5, 2) := by decide +kernel
theorem dX9_plan_61 : decode cX9_plan 61 = .ok (.invokestatic 84, 3) := by decide +kernel
theorem dX9_plan_64 : decode cX9_plan 64 = .ok (.iconst 1, 1) := by decide +kernel
theorem dX9_plan_65 : decode cX9_plan 65 = .ok (.invokevirtual 178, 3) := by decide +kernel
theorem dX9_plan_68 : decode cX9_plan 68 = .ok (.ireturn, 1) := by decide +kernel
set_option maxRecDepth 20000 in
theorem ggX9_away_X9_mayPlan : GoodIn wsX9_away wsX9_mayPlan := goodIn_r _ [10, 11, 12, 13, 9, 14, 15, 16, 17, 18, 126, 127, 128, 129, 130, 131, 132, 133] (by decide +kernel) (by decide +kernel)
set_option maxRecDepth 20000 in
theorem gX9_away_X9_mayPlan : GoodIn wsX9_away (wsV RX9 175 RX9 yX9_mayPlan wsX9_mayPlan) := goodIn_app (goodIn_of _ (by decide +kernel)) ggX9_away_X9_mayPlan
set_option maxRecDepth 20000 in
theorem ggX9_away_X6_best : GoodIn wsX9_away wsX6_best := goodIn_r _ [23, 24, 25, 26, 27, 28, 29, 30, 31, 32, 33, 34, 35, 36, 37, 38, 39, 40, 41, 42, 43, 44, 45, 22, 46, 47, 48, 49, 50, 51, 52, 53, 54, 55, 56, 57, 58, 59, 9, 60, 61, 62, 63, 64, 65, 66, 67, 68, 69, 70, 71, 72, 73, 74, 75, 76, 77, 78, 79, 80, 81, 82, 83, 84, 85, 86, 87, 88, 89, 90, 91, 92, 93, 94, 95, 96, 97, 98, 99, 100, 101, 102, 103, 104, 105, 106, 107, 108, 109, 110, 111, 112, 113, 114, 115, 116, 117, 118, 17, 18, 119, 120, 121, 122, 123, 124, 125, 149, 150, 151, 152, 153, 154, 155, 156, 157, 158, 159, 141, 142, 143, 144, 145, 146, 147, 148, 160, 161, 162, 163, 164, 165, 166, 167, 168, 169] (by decide +kernel) (by decide +kernel)
set_option maxRecDepth 20000 in
theorem gX9_away_X6_best : GoodIn wsX9_away (wsV RX9 178 RX6 yX6_best wsX6_best) := goodIn_app (goodIn_of _ (by decide +kernel)) ggX9_away_X6_best
theorem dX9_away_0 : decode cX9_away 0 = .ok (.aload_n 0, 1) := by decide +kernel
theorem dX9_away_1 : decode cX9_away 1 = .ok (.iload_n 1, 1) := by decide +kernel
theorem dX9_away_2 : decode cX9_away 2 = .ok (.iload_n 2, 1) := by decide +kernel
theorem dX9_away_3 : decode cX9_away 3 = .ok (.iload_n 3, 1) := by decide +kernel
theorem dX9_away_4 : decode cX9_away 4 = .ok (.invokevirtual 175, 3) := by decide +kernel
theorem dX9_away_7 : decode cX9_away 7 = .ok (.ifCond .ne 6, 3) := by decide +kernel
theorem dX9_away_10 : decode cX9_away 10 = .ok (.bipush (-2), 2) := by decide +kernel
theorem dX9_away_12 : decode cX9_away 12 = .ok (.ireturn, 1) := by decide +kernel
theorem dX9_away_13 : decode cX9_away 13 = .ok (.aload_n 0, 1) := by decide +kernel
theorem dX9_away_14 : decode cX9_away 14 = .ok (.getfield 25, 3) := by decide +kernel
theorem dX9_away_17 : decode cX9_away 17 = .ok (.iload_n 1, 1) := by decide +kernel
theorem dX9_away_18 : decode cX9_away 18 = .ok (.aaload, 1) := by decide +kernel
theorem dX9_away_19 : decode cX9_away 19 = .ok (.getfield 121, 3) := by decide +kernel
theorem dX9_away_22 : decode cX9_away 22 = .ok (.astore 4, 2) := by decide +kernel
theorem dX9_away_24 : decode cX9_away 24 = .ok (.aload 4, 2) := by decide +kernel
theorem dX9_away_26 : decode cX9_away 26 = .ok (.getfield 125, 3) := by decide +kernel
theorem dX9_away_29 : decode cX9_away 29 = .ok (.ifCond .eq 6, 3) := by decide +kernel
theorem dX9_away_32 : decode cX9_away 32 = .ok (.bipush (-3), 2) := by decide +kernel
theorem dX9_away_34 : decode cX9_away 34 = .ok (.ireturn, 1) := by decide +kernel
theorem dX9_away_35 : decode cX9_away 35 = .ok (.aload_n 0, 1) := by decide +kernel
theorem dX9_away_36 : decode cX9_away 36 = .ok (.getfield 42, 3) := by decide +kernel
theorem dX9_away_39 : decode cX9_away 39 = .ok (.aload 4, 2) := by decide +kernel
theorem dX9_away_41 : decode cX9_away 41 = .ok (.iload_n 2, 1) := by decide +kernel
theorem dX9_away_42 : decode cX9_away 42 = .ok (.iload_n 3, 1) := by decide +kernel
theorem dX9_away_43 : decode cX9_away 43 = .ok (.aload_n 0, 1) := by decide +kernel
theorem dX9_away_44 : decode cX9_away 44 = .ok (.getfield 25, 3) := by decide +kernel
theorem dX9_away_47 : decode cX9_away 47 = .ok (.iload_n 1, 1) := by decide +kernel
theorem dX9_away_48 : decode cX9_away 48 = .ok (.aaload, 1) := by decide +kernel
theorem dX9_away_49 : decode cX9_away 49 = .ok (.getfield 182, 3) := by decide +kernel
theorem dX9_away_52 : decode cX9_away 52 = .ok (.iconst 0, 1) := by decide +kernel
theorem dX9_away_53 : decode cX9_away 53 = .ok (.invokevirtual 178, 3) := by decide +kernel
theorem dX9_away_56 : decode cX9_away 56 = .ok (.ireturn, 1) := by decide +kernel
set_option maxRecDepth 20000 in
theorem ggX9_order_X9_within : GoodIn wsX9_order wsX9_within := goodIn_r _ [7] (by decide +kernel) (by decide +kernel)
set_option maxRecDepth 20000 in
theorem gX9_order_X9_within : GoodIn wsX9_order (va_wsS RX9 69 yX9_within wsX9_within) := goodIn_app (goodIn_of _ (by decide +kernel)) ggX9_order_X9_within
theorem dX9_order_0 : decode cX9_order 0 = .ok (.iload_n 1, 1) := by decide +kernel
theorem dX9_order_1 : decode cX9_order 1 = .ok (.iconst 0, 1) := by decide +kernel
theorem dX9_order_2 : decode cX9_order 2 = .ok (.aload_n 0, 1) := by decide +kernel
theorem dX9_order_3 : decode cX9_order 3 = .ok (.getfield 42, 3) := by decide +kernel
theorem dX9_order_6 : decode cX9_order 6 = .ok (.getfield 185, 3) := by decide +kernel
theorem dX9_order_9 : decode cX9_order 9 = .ok (.iconst 1, 1) := by decide +kernel
theorem dX9_order_10 : decode cX9_order 10 = .ok (.isub, 1) := by decide +kernel
theorem dX9_order_11 : decode cX9_order 11 = .ok (.invokestatic 69, 3) := by decide +kernel
theorem dX9_order_14 : decode cX9_order 14 = .ok (.ifCond .ne 5, 3) := by decide +kernel
theorem dX9_order_17 : decode cX9_order 17 = .ok (.iconst (-1), 1) := by decide +kernel
theorem dX9_order_18 : decode cX9_order 18 = .ok (.ireturn, 1) := by decide +kernel
theorem dX9_order_19 : decode cX9_order 19 = .ok (.aload_n 0, 1) := by decide +kernel
theorem dX9_order_20 : decode cX9_order 20 = .ok (.getfield 42, 3) := by decide +kernel
theorem dX9_order_23 : decode cX9_order 23 = .ok (.getfield 188, 3) := by decide +kernel
theorem dX9_order_26 : decode cX9_order 26 = .ok (.iload_n 1, 1) := by decide +kernel
theorem dX9_order_27 : decode cX9_order 27 = .ok (.iaload, 1) := by decide +kernel
theorem dX9_order_28 : decode cX9_order 28 = .ok (.ireturn, 1) := by decide +kernel
set_option maxRecDepth 20000 in
theorem ggX9_entry_X9_isFlight : GoodIn wsX9_entry wsX9_isFlight := goodIn_r _ [9, 10, 11, 12, 8, 13, 26, 27, 28, 29, 30, 31, 32, 33] (by decide +kernel) (by decide +kernel)
set_option maxRecDepth 20000 in
theorem gX9_entry_X9_isFlight : GoodIn wsX9_entry (wsV RX9 118 RX9 yX9_isFlight wsX9_isFlight) := goodIn_app (goodIn_of _ (by decide +kernel)) ggX9_entry_X9_isFlight
set_option maxRecDepth 20000 in
theorem ggX9_entry_X9_within : GoodIn wsX9_entry wsX9_within := goodIn_r _ [13] (by decide +kernel) (by decide +kernel)
set_option maxRecDepth 20000 in
theorem gX9_entry_X9_within : GoodIn wsX9_entry (va_wsS RX9 69 yX9_within wsX9_within) := goodIn_app (goodIn_of _ (by decide +kernel)) ggX9_entry_X9_within
set_option maxRecDepth 20000 in
theorem ggX9_entry_X9_levelOfPlace : GoodIn wsX9_entry wsX9_levelOfPlace := goodIn_r _ [16] (by decide +kernel) (by decide +kernel)
set_option maxRecDepth 20000 in
theorem gX9_entry_X9_levelOfPlace : GoodIn wsX9_entry (va_wsS RX9 197 yX9_levelOfPlace wsX9_levelOfPlace) := goodIn_app (goodIn_of _ (by decide +kernel)) ggX9_entry_X9_levelOfPlace
set_option maxRecDepth 20000 in
theorem ggX9_entry_X9_cellOfPlace : GoodIn wsX9_entry wsX9_cellOfPlace := goodIn_r _ [19] (by decide +kernel) (by decide +kernel)
set_option maxRecDepth 20000 in
theorem gX9_entry_X9_cellOfPlace : GoodIn wsX9_entry (va_wsS RX9 200 yX9_cellOfPlace wsX9_cellOfPlace) := goodIn_app (goodIn_of _ (by decide +kernel)) ggX9_entry_X9_cellOfPlace
set_option maxRecDepth 20000 in
theorem ggX9_entry_X9_xOf : GoodIn wsX9_entry wsX9_xOf := goodIn_r _ [22] (by decide +kernel) (by decide +kernel)
set_option maxRecDepth 20000 in
theorem gX9_entry_X9_xOf : GoodIn wsX9_entry (va_wsS RX9 145 yX9_xOf wsX9_xOf) := goodIn_app (goodIn_of _ (by decide +kernel)) ggX9_entry_X9_xOf
set_option maxRecDepth 20000 in
theorem ggX9_entry_X9_yOf : GoodIn wsX9_entry wsX9_yOf := goodIn_r _ [25] (by decide +kernel) (by decide +kernel)
set_option maxRecDepth 20000 in
theorem gX9_entry_X9_yOf : GoodIn wsX9_entry (va_wsS RX9 149 yX9_yOf wsX9_yOf) := goodIn_app (goodIn_of _ (by decide +kernel)) ggX9_entry_X9_yOf
theorem dX9_entry_0 : decode cX9_entry 0 = .ok (.aload_n 0, 1) := by decide +kernel
theorem dX9_entry_1 : decode cX9_entry 1 = .ok (.iload_n 1, 1) := by decide +kernel
theorem dX9_entry_2 : decode cX9_entry 2 = .ok (.invokevirtual 118, 3) := by decide +kernel
theorem dX9_entry_5 : decode cX9_entry 5 = .ok (.ifCond .eq 12, 3) := by decide +kernel
theorem dX9_entry_8 : decode cX9_entry 8 = .ok (.iload_n 3, 1) := by decide +kernel
theorem dX9_entry_9 : decode cX9_entry 9 = .ok (.iconst 0, 1) := by decide +kernel
theorem dX9_entry_10 : decode cX9_entry 10 = .ok (.iconst 2, 1) := by decide +kernel
theorem dX9_entry_11 : decode cX9_entry 11 = .ok (.invokestatic 69, 3) := by decide +kernel
theorem dX9_entry_14 : decode cX9_entry 14 = .ok (.ifCond .ne 6, 3) := by decide +kernel
theorem dX9_entry_17 : decode cX9_entry 17 = .ok (.bipush (-2), 2) := by decide +kernel
theorem dX9_entry_19 : decode cX9_entry 19 = .ok (.ireturn, 1) := by decide +kernel
theorem dX9_entry_20 : decode cX9_entry 20 = .ok (.aload_n 0, 1) := by decide +kernel
theorem dX9_entry_21 : decode cX9_entry 21 = .ok (.getfield 25, 3) := by decide +kernel
theorem dX9_entry_24 : decode cX9_entry 24 = .ok (.iload_n 1, 1) := by decide +kernel
theorem dX9_entry_25 : decode cX9_entry 25 = .ok (.aaload, 1) := by decide +kernel
theorem dX9_entry_26 : decode cX9_entry 26 = .ok (.astore 4, 2) := by decide +kernel
theorem dX9_entry_28 : decode cX9_entry 28 = .ok (.iload_n 2, 1) := by decide +kernel
theorem dX9_entry_29 : decode cX9_entry 29 = .ok (.iconst 0, 1) := by decide +kernel
theorem dX9_entry_30 : decode cX9_entry 30 = .ok (.aload 4, 2) := by decide +kernel
theorem dX9_entry_32 : decode cX9_entry 32 = .ok (.getfield 131, 3) := by decide +kernel
theorem dX9_entry_35 : decode cX9_entry 35 = .ok (.iconst 1, 1) := by decide +kernel
theorem dX9_entry_36 : decode cX9_entry 36 = .ok (.isub, 1) := by decide +kernel
theorem dX9_entry_37 : decode cX9_entry 37 = .ok (.invokestatic 69, 3) := by decide +kernel
theorem dX9_entry_40 : decode cX9_entry 40 = .ok (.ifCond .eq 13, 3) := by decide +kernel
theorem dX9_entry_43 : decode cX9_entry 43 = .ok (.aload 4, 2) := by decide +kernel
theorem dX9_entry_45 : decode cX9_entry 45 = .ok (.getfield 191, 3) := by decide +kernel
theorem dX9_entry_48 : decode cX9_entry 48 = .ok (.iload_n 2, 1) := by decide +kernel
theorem dX9_entry_49 : decode cX9_entry 49 = .ok (.baload, 1) := by decide +kernel
theorem dX9_entry_50 : decode cX9_entry 50 = .ok (.ifCond .eq 5, 3) := by decide +kernel
theorem dX9_entry_53 : decode cX9_entry 53 = .ok (.iconst (-1), 1) := by decide +kernel
theorem dX9_entry_54 : decode cX9_entry 54 = .ok (.ireturn, 1) := by decide +kernel
theorem dX9_entry_55 : decode cX9_entry 55 = .ok (.aload 4, 2) := by decide +kernel
theorem dX9_entry_57 : decode cX9_entry 57 = .ok (.getfield 194, 3) := by decide +kernel
theorem dX9_entry_60 : decode cX9_entry 60 = .ok (.iload_n 2, 1) := by decide +kernel
theorem dX9_entry_61 : decode cX9_entry 61 = .ok (.iaload, 1) := by decide +kernel
theorem dX9_entry_62 : decode cX9_entry 62 = .ok (.istore 5, 2) := by decide +kernel
theorem dX9_entry_64 : decode cX9_entry 64 = .ok (.iload_n 3, 1) := by decide +kernel
theorem dX9_entry_65 : decode cX9_entry 65 = .ok (.iconst 2, 1) := by decide +kernel
theorem dX9_entry_66 : decode cX9_entry 66 = .ok (.if_icmp .ne 9, 3) := by decide +kernel
theorem dX9_entry_69 : decode cX9_entry 69 = .ok (.iload 5, 2) := by decide +kernel
theorem dX9_entry_71 : decode cX9_entry 71 = .ok (.invokestatic 197, 3) := by decide +kernel
theorem dX9_entry_74 : decode cX9_entry 74 = .ok (.ireturn, 1) := by decide +kernel
theorem dX9_entry_75 : decode cX9_entry 75 = .ok (.iload_n 3, 1) := by decide +kernel
theorem dX9_entry_76 : decode cX9_entry 76 = .ok (.ifCond .ne 14, 3) := by decide +kernel
theorem dX9_entry_79 : decode cX9_entry 79 = .ok (.iload 5, 2) := by decide +kernel
theorem dX9_entry_81 : decode cX9_entry 81 = .ok (.invokestatic 200, 3) := by decide +kernel
theorem dX9_entry_84 : decode cX9_entry 84 = .ok (.invokestatic 145, 3) := by decide +kernel
theorem dX9_entry_87 : decode cX9_entry 87 = .ok (.goto 11, 3) := by decide +kernel
theorem dX9_entry_90 : decode cX9_entry 90 = .ok (.iload 5, 2) := by decide +kernel
theorem dX9_entry_92 : decode cX9_entry 92 = .ok (.invokestatic 200, 3) := by decide +kernel
theorem dX9_entry_95 : decode cX9_entry 95 = .ok (.invokestatic 149, 3) := by decide +kernel
theorem dX9_entry_98 : decode cX9_entry 98 = .ok (.ireturn, 1) := by decide +kernel
set_option maxRecDepth 20000 in
theorem ggX9_lose_X9_isFlight : GoodIn wsX9_lose wsX9_isFlight := goodIn_r _ [6, 7, 8, 9, 5, 10, 23, 24, 25, 26, 27, 28, 29, 30] (by decide +kernel) (by decide +kernel)
set_option maxRecDepth 20000 in
theorem gX9_lose_X9_isFlight : GoodIn wsX9_lose (wsV RX9 118 RX9 yX9_isFlight wsX9_isFlight) := goodIn_app (goodIn_of _ (by decide +kernel)) ggX9_lose_X9_isFlight
set_option maxRecDepth 20000 in
theorem ggX9_lose_X3_forget : GoodIn wsX9_lose wsX3_forget := goodIn_r _ [15, 16, 17, 18, 19, 20, 21, 22, 31, 32, 33, 34, 35, 36, 37] (by decide +kernel) (by decide +kernel)
set_option maxRecDepth 20000 in
theorem gX9_lose_X3_forget : GoodIn wsX9_lose (wsV RX9 203 RX3 yX3_forget wsX3_forget) := goodIn_app (goodIn_of _ (by decide +kernel)) ggX9_lose_X3_forget
theorem dX9_lose_0 : decode cX9_lose 0 = .ok (.aload_n 0, 1) := by decide +kernel
theorem dX9_lose_1 : decode cX9_lose 1 = .ok (.iload_n 1, 1) := by decide +kernel
theorem dX9_lose_2 : decode cX9_lose 2 = .ok (.invokevirtual 118, 3) := by decide +kernel
theorem dX9_lose_5 : decode cX9_lose 5 = .ok (.ifCond .eq 13, 3) := by decide +kernel
theorem dX9_lose_8 : decode cX9_lose 8 = .ok (.iload_n 2, 1) := by decide +kernel
theorem dX9_lose_9 : decode cX9_lose 9 = .ok (.iconst 1, 1) := by decide +kernel
theorem dX9_lose_10 : decode cX9_lose 10 = .ok (.if_icmp .lt 8, 3) := by decide +kernel
theorem dX9_lose_13 : decode cX9_lose 13 = .ok (.iload_n 3, 1) := by decide +kernel
theorem dX9_lose_14 : decode cX9_lose 14 = .ok (.iload_n 2, 1) := by decide +kernel
theorem dX9_lose_15 : decode cX9_lose 15 = .ok (.if_icmp .ge 6, 3) := by decide +kernel
theorem dX9_lose_18 : decode cX9_lose 18 = .ok (.bipush (-2), 2) := by decide +kernel
theorem dX9_lose_20 : decode cX9_lose 20 = .ok (.ireturn, 1) := by decide +kernel
theorem dX9_lose_21 : decode cX9_lose 21 = .ok (.aload_n 0, 1) := by decide +kernel
theorem dX9_lose_22 : decode cX9_lose 22 = .ok (.getfield 25, 3) := by decide +kernel
theorem dX9_lose_25 : decode cX9_lose 25 = .ok (.iload_n 1, 1) := by decide +kernel
theorem dX9_lose_26 : decode cX9_lose 26 = .ok (.aaload, 1) := by decide +kernel
theorem dX9_lose_27 : decode cX9_lose 27 = .ok (.iload_n 2, 1) := by decide +kernel
theorem dX9_lose_28 : decode cX9_lose 28 = .ok (.iload_n 3, 1) := by decide +kernel
theorem dX9_lose_29 : decode cX9_lose 29 = .ok (.invokevirtual 203, 3) := by decide +kernel
theorem dX9_lose_32 : decode cX9_lose 32 = .ok (.ireturn, 1) := by decide +kernel
set_option maxRecDepth 20000 in
theorem ggX9_judge_X9_isFlight : GoodIn wsX9_judge wsX9_isFlight := goodIn_r _ [7, 8, 9, 10, 6, 11, 98, 99, 100, 101, 102, 103, 104, 105] (by decide +kernel) (by decide +kernel)
set_option maxRecDepth 20000 in
theorem gX9_judge_X9_isFlight : GoodIn wsX9_judge (wsV RX9 118 RX9 yX9_isFlight wsX9_isFlight) := goodIn_app (goodIn_of _ (by decide +kernel)) ggX9_judge_X9_isFlight
set_option maxRecDepth 20000 in
theorem ggX9_judge_X7_follow : GoodIn wsX9_judge wsX7_follow := goodIn_r _ [16, 17, 18, 19, 20, 21, 22, 23, 24, 25, 26, 27, 28, 29, 30, 31, 32, 33, 34, 15, 35, 36, 37, 38, 6, 39, 40, 41, 42, 43, 44, 45, 46, 47, 48, 49, 50, 51, 52, 53, 54, 55, 56, 57, 58, 59, 60, 61, 62, 63, 64, 65, 66, 67, 68, 69, 70, 71, 72, 73, 74, 75, 76, 77, 78, 79, 80, 81, 82, 10, 11, 83, 84, 85, 86, 87, 88, 89, 90, 91, 92, 93, 106, 107, 108, 109, 110, 111, 112, 113, 114, 115, 116, 117, 118, 119, 120, 121, 122, 123, 124, 125, 126, 127] (by decide +kernel) (by decide +kernel)
set_option maxRecDepth 20000 in
theorem gX9_judge_X7_follow : GoodIn wsX9_judge (wsV RX9 206 RX7 yX7_follow wsX7_follow) := goodIn_app (goodIn_of _ (by decide +kernel)) ggX9_judge_X7_follow
set_option maxRecDepth 20000 in
theorem ggX9_judge_X7_verdict : GoodIn wsX9_judge wsX7_verdict := goodIn_r _ [97, 91, 92, 106, 107, 108, 109, 110, 111] (by decide +kernel) (by decide +kernel)
set_option maxRecDepth 20000 in
theorem gX9_judge_X7_verdict : GoodIn wsX9_judge (wsV RX9 210 RX7 yX7_verdict wsX7_verdict) := goodIn_app (goodIn_of _ (by decide +kernel)) ggX9_judge_X7_verdict
theorem dX9_judge_0 : decode cX9_judge 0 = .ok (.aload_n 0, 1) := by decide +kernel
theorem dX9_judge_1 : decode cX9_judge 1 = .ok (.iload_n 1, 1) := by decide +kernel
theorem dX9_judge_2 : decode cX9_judge 2 = .ok (.invokevirtual 118, 3) := by decide +kernel
theorem dX9_judge_5 : decode cX9_judge 5 = .ok (.ifCond .ne 6, 3) := by decide +kernel
theorem dX9_judge_8 : decode cX9_judge 8 = .ok (.bipush (-2), 2) := by decide +kernel
theorem dX9_judge_10 : decode cX9_judge 10 = .ok (.ireturn, 1) := by decide +kernel
theorem dX9_judge_11 : decode cX9_judge 11 = .ok (.aload_n 0, 1) := by decide +kernel
theorem dX9_judge_12 : decode cX9_judge 12 = .ok (.getfield 55, 3) := by decide +kernel
theorem dX9_judge_15 : decode cX9_judge 15 = .ok (.aload_n 0, 1) := by decide +kernel
theorem dX9_judge_16 : decode cX9_judge 16 = .ok (.getfield 25, 3) := by decide +kernel
theorem dX9_judge_19 : decode cX9_judge 19 = .ok (.iload_n 1, 1) := by decide +kernel
theorem dX9_judge_20 : decode cX9_judge 20 = .ok (.aaload, 1) := by decide +kernel
theorem dX9_judge_21 : decode cX9_judge 21 = .ok (.invokevirtual 206, 3) := by decide +kernel
theorem dX9_judge_24 : decode cX9_judge 24 = .ok (.aload_n 0, 1) := by decide +kernel
theorem dX9_judge_25 : decode cX9_judge 25 = .ok (.getfield 55, 3) := by decide +kernel
theorem dX9_judge_28 : decode cX9_judge 28 = .ok (.invokevirtual 210, 3) := by decide +kernel
theorem dX9_judge_31 : decode cX9_judge 31 = .ok (.ireturn, 1) := by decide +kernel
set_option maxRecDepth 20000 in
theorem ggX9_ways_X9_isFlight : GoodIn wsX9_ways wsX9_isFlight := goodIn_r _ [14, 15, 16, 17, 13, 18, 98, 99, 100, 101, 102, 103, 104, 105] (by decide +kernel) (by decide +kernel)
set_option maxRecDepth 20000 in
theorem gX9_ways_X9_isFlight : GoodIn wsX9_ways (wsV RX9 118 RX9 yX9_isFlight wsX9_isFlight) := goodIn_app (goodIn_of _ (by decide +kernel)) ggX9_ways_X9_isFlight
set_option maxRecDepth 20000 in
theorem ggX9_ways_X7_follow : GoodIn wsX9_ways wsX7_follow := goodIn_r _ [23, 24, 25, 26, 27, 28, 29, 30, 31, 32, 33, 34, 35, 36, 37, 38, 39, 40, 41, 22, 42, 43, 44, 45, 13, 46, 47, 48, 49, 50, 51, 52, 7, 8, 9, 53, 54, 55, 56, 57, 58, 59, 60, 61, 62, 63, 64, 65, 66, 67, 68, 69, 70, 71, 72, 73, 74, 75, 76, 77, 78, 79, 80, 81, 82, 83, 84, 85, 86, 17, 18, 87, 88, 89, 90, 91, 92, 93, 94, 95, 96, 97, 106, 107, 108, 109, 110, 111, 112, 113, 114, 115, 116, 117, 118, 119, 120, 121, 122, 123, 124, 125, 126, 127] (by decide +kernel) (by decide +kernel)
set_option maxRecDepth 20000 in
theorem gX9_ways_X7_follow : GoodIn wsX9_ways (wsV RX9 206 RX7 yX7_follow wsX7_follow) := goodIn_app (goodIn_of _ (by decide +kernel)) ggX9_ways_X7_follow
theorem dX9_ways_0 : decode cX9_ways 0 = .ok (.aload_n 0, 1) := by decide +kernel
theorem dX9_ways_1 : decode cX9_ways 1 = .ok (.iload_n 1, 1) := by decide +kernel
theorem dX9_ways_2 : decode cX9_ways 2 = .ok (.invokevirtual 118, 3) := by decide +kernel
theorem dX9_ways_5 : decode cX9_ways 5 = .ok (.ifCond .ne 6, 3) := by decide +kernel
theorem dX9_ways_8 : decode cX9_ways 8 = .ok (.bipush (-2), 2) := by decide +kernel
theorem dX9_ways_10 : decode cX9_ways 10 = .ok (.ireturn, 1) := by decide +kernel
theorem dX9_ways_11 : decode cX9_ways 11 = .ok (.aload_n 0, 1) := by decide +kernel
theorem dX9_ways_12 : decode cX9_ways 12 = .ok (.getfield 55, 3) := by decide +kernel
theorem dX9_ways_15 : decode cX9_ways 15 = .ok (.aload_n 0, 1) := by decide +kernel
theorem dX9_ways_16 : decode cX9_ways 16 = .ok (.getfield 25, 3) := by decide +kernel
theorem dX9_ways_19 : decode cX9_ways 19 = .ok (.iload_n 1, 1) := by decide +kernel
theorem dX9_ways_20 : decode cX9_ways 20 = .ok (.aaload, 1) := by decide +kernel
theorem dX9_ways_21 : decode cX9_ways 21 = .ok (.invokevirtual 206, 3) := by decide +kernel
theorem dX9_ways_24 : decode cX9_ways 24 = .ok (.iload_n 2, 1) := by decide +kernel
theorem dX9_ways_25 : decode cX9_ways 25 = .ok (.ifCond .eq 13, 3) := by decide +kernel
theorem dX9_ways_28 : decode cX9_ways 28 = .ok (.aload_n 0, 1) := by decide +kernel
theorem dX9_ways_29 : decode cX9_ways 29 = .ok (.getfield 55, 3) := by decide +kernel
theorem dX9_ways_32 : decode cX9_ways 32 = .ok (.getfield 213, 3) := by decide +kernel
theorem dX9_ways_35 : decode cX9_ways 35 = .ok (.goto 23, 3) := by decide +kernel
theorem dX9_ways_38 : decode cX9_ways 38 = .ok (.ldc 216, 2) := by decide +kernel
theorem dX9_ways_40 : decode cX9_ways 40 = .ok (.aload_n 0, 1) := by decide +kernel
theorem dX9_ways_41 : decode cX9_ways 41 = .ok (.getfield 55, 3) := by decide +kernel
theorem dX9_ways_44 : decode cX9_ways 44 = .ok (.getfield 217, 3) := by decide +kernel
theorem dX9_ways_47 : decode cX9_ways 47 = .ok (.aload_n 0, 1) := by decide +kernel
theorem dX9_ways_48 : decode cX9_ways 48 = .ok (.getfield 55, 3) := by decide +kernel
theorem dX9_ways_51 : decode cX9_ways 51 = .ok (.getfield 213, 3) := by decide +kernel
theorem dX9_ways_54 : decode cX9_ways 54 = .ok (.iadd, 1) := by decide +kernel
theorem dX9_ways_55 : decode cX9_ways 55 = .ok (.invokestatic 220, 3) := by decide +kernel
theorem dX9_ways_58 : decode cX9_ways 58 = .ok (.ireturn, 1) := by decide +kernel
set_option maxRecDepth 20000 in
theorem ggX9_chaser_X5_has : GoodIn wsX9_chaser wsX5_has := goodIn_r _ [9, 10, 11, 12, 13, 14, 35, 36, 37] (by decide +kernel) (by decide +kernel)
set_option maxRecDepth 20000 in
theorem gX9_chaser_X5_has : GoodIn wsX9_chaser (wsV RX9 80 RX5 yX5_has wsX5_has) := goodIn_app (goodIn_of _ (by decide +kernel)) ggX9_chaser_X5_has
set_option maxRecDepth 20000 in
theorem ggX9_chaser_X9_within : GoodIn wsX9_chaser wsX9_within := goodIn_r _ [14] (by decide +kernel) (by decide +kernel)
set_option maxRecDepth 20000 in
theorem gX9_chaser_X9_within : GoodIn wsX9_chaser (va_wsS RX9 69 yX9_within wsX9_within) := goodIn_app (goodIn_of _ (by decide +kernel)) ggX9_chaser_X9_within
set_option maxRecDepth 20000 in
theorem ggX9_chaser_X9_cellOf : GoodIn wsX9_chaser wsX9_cellOf := goodIn_r _ [18] (by decide +kernel) (by decide +kernel)
set_option maxRecDepth 20000 in
theorem gX9_chaser_X9_cellOf : GoodIn wsX9_chaser (va_wsS RX9 84 yX9_cellOf wsX9_cellOf) := goodIn_app (goodIn_of _ (by decide +kernel)) ggX9_chaser_X9_cellOf
set_option maxRecDepth 20000 in
theorem ggX9_chaser_X2_add : GoodIn wsX9_chaser wsX2_add := goodIn_r _ [23, 24, 25, 26, 38, 39, 40, 41, 42, 43] (by decide +kernel) (by decide +kernel)
set_option maxRecDepth 20000 in
theorem gX9_chaser_X2_add : GoodIn wsX9_chaser (wsV RX9 225 RX2 yX2_add wsX2_add) := goodIn_app (goodIn_of _ (by decide +kernel)) ggX9_chaser_X2_add
theorem dX9_chaser_0 : decode cX9_chaser 0 = .ok (.aload_n 0, 1) := by decide +kernel
theorem dX9_chaser_1 : decode cX9_chaser 1 = .ok (.getfield 12, 3) := by decide +kernel
theorem dX9_chaser_4 : decode cX9_chaser 4 = .ok (.iload_n 1, 1) := by decide +kernel
theorem dX9_chaser_5 : decode cX9_chaser 5 = .ok (.iload_n 2, 1) := by decide +kernel
theorem dX9_chaser_6 : decode cX9_chaser 6 = .ok (.invokevirtual 80, 3) := by decide +kernel
theorem dX9_chaser_9 : decode cX9_chaser 9 = .ok (.ifCond .eq 12, 3) := by decide +kernel
theorem dX9_chaser_12 : decode cX9_chaser 12 = .ok (.iload_n 3, 1) := by decide +kernel
theorem dX9_chaser_13 : decode cX9_chaser 13 = .ok (.iconst 1, 1) := by decide +kernel
theorem dX9_chaser_14 : decode cX9_chaser 14 = .ok (.iconst 5, 1) := by decide +kernel
theorem dX9_chaser_15 : decode cX9_chaser 15 = .ok (.invokestatic 69, 3) := by decide +kernel
theorem dX9_chaser_18 : decode cX9_chaser 18 = .ok (.ifCond .ne 6, 3) := by decide +kernel
theorem dX9_chaser_21 : decode cX9_chaser 21 = .ok (.bipush (-2), 2) := by decide +kernel
theorem dX9_chaser_23 : decode cX9_chaser 23 = .ok (.ireturn, 1) := by decide +kernel
theorem dX9_chaser_24 : decode cX9_chaser 24 = .ok (.iload_n 1, 1) := by decide +kernel
theorem dX9_chaser_25 : decode cX9_chaser 25 = .ok (.iload_n 2, 1) := by decide +kernel
theorem dX9_chaser_26 : decode cX9_chaser 26 = .ok (.invokestatic 84, 3) := by decide +kernel
theorem dX9_chaser_29 : decode cX9_chaser 29 = .ok (.istore 4, 2) := by decide +kernel
theorem dX9_chaser_31 : decode cX9_chaser 31 = .ok (.aload_n 0, 1) := by decide +kernel
theorem dX9_chaser_32 : decode cX9_chaser 32 = .ok (.getfield 12, 3) := by decide +kernel
theorem dX9_chaser_35 : decode cX9_chaser 35 = .ok (.getfield 92, 3) := by decide +kernel
theorem dX9_chaser_38 : decode cX9_chaser 38 = .ok (.iload 4, 2) := by decide +kernel
theorem dX9_chaser_40 : decode cX9_chaser 40 = .ok (.iaload, 1) := by decide +kernel
theorem dX9_chaser_41 : decode cX9_chaser 41 = .ok (.iconst 1, 1) := by decide +kernel
theorem dX9_chaser_42 : decode cX9_chaser 42 = .ok (.if_icmp .ne 6, 3) := by decide +kernel
theorem dX9_chaser_45 : decode cX9_chaser 45 = .ok (.bipush (-3), 2) := by decide +kernel
theorem dX9_chaser_47 : decode cX9_chaser 47 = .ok (.ireturn, 1) := by decide +kernel
theorem dX9_chaser_48 : decode cX9_chaser 48 = .ok (.aload_n 0, 1) := by decide +kernel
theorem dX9_chaser_49 : decode cX9_chaser 49 = .ok (.getfield 64, 3) := by decide +kernel
theorem dX9_chaser_52 : decode cX9_chaser 52 = .ok (.getfield 77, 3) := by decide +kernel
theorem dX9_chaser_55 : decode cX9_chaser 55 = .ok (.iconst 4, 1) := by decide +kernel
theorem dX9_chaser_56 : decode cX9_chaser 56 = .ok (.if_icmp .lt 6, 3) := by decide +kernel
theorem dX9_chaser_59 : decode cX9_chaser 59 = .ok (.bipush (-4), 2) := by decide +kernel
theorem dX9_chaser_61 : decode cX9_chaser 61 = .ok (.ireturn, 1) := by decide +kernel
theorem dX9_chaser_62 : decode cX9_chaser 62 = .ok (.aload_n 0, 1) := by decide +kernel
theorem dX9_chaser_63 : decode cX9_chaser 63 = .ok (.getfield 64, 3) := by decide +kernel
theorem dX9_chaser_66 : decode cX9_chaser 66 = .ok (.iload 4, 2) := by decide +kernel
theorem dX9_chaser_68 : decode cX9_chaser 68 = .ok (.iload_n 3, 1) := by decide +kernel
theorem dX9_chaser_69 : decode cX9_chaser 69 = .ok (.invokevirtual 225, 3) := by decide +kernel
theorem dX9_chaser_72 : decode cX9_chaser 72 = .ok (.aload_n 0, 1) := by decide +kernel
theorem dX9_chaser_73 : decode cX9_chaser 73 = .ok (.getfield 64, 3) := by decide +kernel
theorem dX9_chaser_76 : decode cX9_chaser 76 = .ok (.getfield 77, 3) := by decide +kernel
theorem dX9_chaser_79 : decode cX9_chaser 79 = .ok (.iconst 1, 1) := by decide +kernel
theorem dX9_chaser_80 : decode cX9_chaser 80 = .ok (.isub, 1) := by decide +kernel
theorem dX9_chaser_81 : decode cX9_chaser 81 = .ok (.ireturn, 1) := by decide +kernel
set_option maxRecDepth 20000 in
theorem ggX9_chase_X9_within : GoodIn wsX9_chase wsX9_within := goodIn_r _ [7] (by decide +kernel) (by decide +kernel)
set_option maxRecDepth 20000 in
theorem gX9_chase_X9_within : GoodIn wsX9_chase (va_wsS RX9 69 yX9_within wsX9_within) := goodIn_app (goodIn_of _ (by decide +kernel)) ggX9_chase_X9_within
set_option maxRecDepth 20000 in
theorem ggX9_chase_X5_has : GoodIn wsX9_chase wsX5_has := goodIn_r _ [12, 13, 14, 5, 6, 7, 64, 65, 66] (by decide +kernel) (by decide +kernel)
set_option maxRecDepth 20000 in
theorem gX9_chase_X5_has : GoodIn wsX9_chase (wsV RX9 80 RX5 yX5_has wsX5_has) := goodIn_app (goodIn_of _ (by decide +kernel)) ggX9_chase_X5_has
set_option maxRecDepth 20000 in
theorem ggX9_chase_X9_cellOf : GoodIn wsX9_chase wsX9_cellOf := goodIn_r _ [17] (by decide +kernel) (by decide +kernel)
set_option maxRecDepth 20000 in
theorem gX9_chase_X9_cellOf : GoodIn wsX9_chase (va_wsS RX9 84 yX9_cellOf wsX9_cellOf) := goodIn_app (goodIn_of _ (by decide +kernel)) ggX9_chase_X9_cellOf
set_option maxRecDepth 20000 in
theorem ggX9_chase_X2_measureFrom : GoodIn wsX9_chase wsX2_measureFrom := goodIn_r _ [22, 23, 24, 25, 26, 27, 28, 29, 30, 31, 32, 33, 21, 34, 35, 36, 37, 11, 38, 39, 6, 40, 41, 42, 43, 9, 10, 12, 13, 14, 5, 7, 16, 17, 58, 59, 60, 61, 62, 63, 64, 65, 66] (by decide +kernel) (by decide +kernel)
set_option maxRecDepth 20000 in
theorem gX9_chase_X2_measureFrom : GoodIn wsX9_chase (wsV RX9 228 RX2 yX2_measureFrom wsX2_measureFrom) := goodIn_app (goodIn_of _ (by decide +kernel)) ggX9_chase_X2_measureFrom
set_option maxRecDepth 20000 in
theorem ggX9_chase_X2_ticksOf : GoodIn wsX9_chase wsX2_ticksOf := goodIn_r _ [47, 23, 48, 49, 58, 59, 60, 61, 62, 63] (by decide +kernel) (by decide +kernel)
set_option maxRecDepth 20000 in
theorem gX9_chase_X2_ticksOf : GoodIn wsX9_chase (wsV RX9 232 RX2 yX2_ticksOf wsX2_ticksOf) := goodIn_app (goodIn_of _ (by decide +kernel)) ggX9_chase_X2_ticksOf
theorem dX9_chase_0 : decode cX9_chase 0 = .ok (.iload_n 1, 1) := by decide +kernel
theorem dX9_chase_1 : decode cX9_chase 1 = .ok (.iconst 0, 1) := by decide +kernel
theorem dX9_chase_2 : decode cX9_chase 2 = .ok (.aload_n 0, 1) := by decide +kernel
theorem dX9_chase_3 : decode cX9_chase 3 = .ok (.getfield 64, 3) := by decide +kernel
theorem dX9_chase_6 : decode cX9_chase 6 = .ok (.getfield 77, 3) := by decide +kernel
theorem dX9_chase_9 : decode cX9_chase 9 = .ok (.iconst 1, 1) := by decide +kernel
theorem dX9_chase_10 : decode cX9_chase 10 = .ok (.isub, 1) := by decide +kernel
theorem dX9_chase_11 : decode cX9_chase 11 = .ok (.invokestatic 69, 3) := by decide +kernel
theorem dX9_chase_14 : decode cX9_chase 14 = .ok (.ifCond .eq 15, 3) := by decide +kernel
theorem dX9_chase_17 : decode cX9_chase 17 = .ok (.aload_n 0, 1) := by decide +kernel
theorem dX9_chase_18 : decode cX9_chase 18 = .ok (.getfield 12, 3) := by decide +kernel
theorem dX9_chase_21 : decode cX9_chase 21 = .ok (.iload_n 2, 1) := by decide +kernel
theorem dX9_chase_22 : decode cX9_chase 22 = .ok (.iload_n 3, 1) := by decide +kernel
theorem dX9_chase_23 : decode cX9_chase 23 = .ok (.invokevirtual 80, 3) := by decide +kernel
theorem dX9_chase_26 : decode cX9_chase 26 = .ok (.ifCond .ne 6, 3) := by decide +kernel
theorem dX9_chase_29 : decode cX9_chase 29 = .ok (.bipush (-2), 2) := by decide +kernel
theorem dX9_chase_31 : decode cX9_chase 31 = .ok (.ireturn, 1) := by decide +kernel
theorem dX9_chase_32 : decode cX9_chase 32 = .ok (.aload_n 0, 1) := by decide +kernel
theorem dX9_chase_33 : decode cX9_chase 33 = .ok (.getfield 64, 3) := by decide +kernel
theorem dX9_chase_36 : decode cX9_chase 36 = .ok (.iload_n 2, 1) := by decide +kernel
theorem dX9_chase_37 : decode cX9_chase 37 = .ok (.iload_n 3, 1) := by decide +kernel
theorem dX9_chase_38 : decode cX9_chase 38 = .ok (.invokestatic 84, 3) := by decide +kernel
theorem dX9_chase_41 : decode cX9_chase 41 = .ok (.invokevirtual 228, 3) := by decide +kernel
theorem dX9_chase_44 : decode cX9_chase 44 = .ok (.aload_n 0, 1) := by decide +kernel
theorem dX9_chase_45 : decode cX9_chase 45 = .ok (.getfield 64, 3) := by decide +kernel
theorem dX9_chase_48 : decode cX9_chase 48 = .ok (.iload_n 1, 1) := by decide +kernel
theorem dX9_chase_49 : decode cX9_chase 49 = .ok (.invokevirtual 232, 3) := by decide +kernel
theorem dX9_chase_52 : decode cX9_chase 52 = .ok (.ireturn, 1) := by decide +kernel
set_option maxRecDepth 20000 in
theorem ggX9_first_X9_isFlight : GoodIn wsX9_first wsX9_isFlight := goodIn_r _ [9, 10, 11, 12, 8, 13, 59, 60, 61, 62, 63, 64, 65, 66] (by decide +kernel) (by decide +kernel)
set_option maxRecDepth 20000 in
theorem gX9_first_X9_isFlight : GoodIn wsX9_first (wsV RX9 118 RX9 yX9_isFlight wsX9_isFlight) := goodIn_app (goodIn_of _ (by decide +kernel)) ggX9_first_X9_isFlight
set_option maxRecDepth 20000 in
theorem ggX9_first_X2_measureFrom : GoodIn wsX9_first wsX2_measureFrom := goodIn_r _ [18, 19, 20, 21, 22, 23, 24, 25, 26, 27, 28, 29, 17, 30, 31, 32, 33, 34, 35, 36, 8, 37, 38, 39, 40, 41, 42, 43, 44, 45, 12, 13, 46, 47, 82, 83, 84, 85, 86, 87, 88, 89, 90] (by decide +kernel) (by decide +kernel)
set_option maxRecDepth 20000 in
theorem gX9_first_X2_measureFrom : GoodIn wsX9_first (wsV RX9 228 RX2 yX2_measureFrom wsX2_measureFrom) := goodIn_app (goodIn_of _ (by decide +kernel)) ggX9_first_X2_measureFrom
set_option maxRecDepth 20000 in
theorem ggX9_first_X2_soonest : GoodIn wsX9_first wsX2_soonest := goodIn_r _ [51, 52, 53, 54, 55, 17, 56, 19, 57, 58, 82, 83, 84, 85, 86, 87] (by decide +kernel) (by decide +kernel)
set_option maxRecDepth 20000 in
theorem gX9_first_X2_soonest : GoodIn wsX9_first (wsV RX9 235 RX2 yX2_soonest wsX2_soonest) := goodIn_app (goodIn_of _ (by decide +kernel)) ggX9_first_X2_soonest
theorem dX9_first_0 : decode cX9_first 0 = .ok (.aload_n 0, 1) := by decide +kernel
theorem dX9_first_1 : decode cX9_first 1 = .ok (.iload_n 1, 1) := by decide +kernel
theorem dX9_first_2 : decode cX9_first 2 = .ok (.invokevirtual 118, 3) := by decide +kernel
theorem dX9_first_5 : decode cX9_first 5 = .ok (.ifCond .ne 6, 3) := by decide +kernel
theorem dX9_first_8 : decode cX9_first 8 = .ok (.bipush (-2), 2) := by decide +kernel
theorem dX9_first_10 : decode cX9_first 10 = .ok (.ireturn, 1) := by decide +kernel
theorem dX9_first_11 : decode cX9_first 11 = .ok (.aload_n 0, 1) := by decide +kernel
theorem dX9_first_12 : decode cX9_first 12 = .ok (.getfield 64, 3) := by decide +kernel
theorem dX9_first_15 : decode cX9_first 15 = .ok (.aload_n 0, 1) := by decide +kernel
theorem dX9_first_16 : decode cX9_first 16 = .ok (.getfield 25, 3) := by decide +kernel
theorem dX9_first_19 : decode cX9_first 19 = .ok (.iload_n 1, 1) := by decide +kernel
theorem dX9_first_20 : decode cX9_first 20 = .ok (.aaload, 1) := by decide +kernel
theorem dX9_first_21 : decode cX9_first 21 = .ok (.getfield 121, 3) := by decide +kernel
theorem dX9_first_24 : decode cX9_first 24 = .ok (.getfield 142, 3) := by decide +kernel
theorem dX9_first_27 : decode cX9_first 27 = .ok (.invokevirtual 228, 3) := by decide +kernel
theorem dX9_first_30 : decode cX9_first 30 = .ok (.aload_n 0, 1) := by decide +kernel
theorem dX9_first_31 : decode cX9_first 31 = .ok (.getfield 64, 3) := by decide +kernel
theorem dX9_first_34 : decode cX9_first 34 = .ok (.invokevirtual 235, 3) := by decide +kernel
theorem dX9_first_37 : decode cX9_first 37 = .ok (.ireturn, 1) := by decide +kernel
set_option maxRecDepth 20000 in
theorem ggX9_record_X9_judge : GoodIn wsX9_record wsX9_judge := goodIn_r _ [10, 11, 3, 12, 13, 14, 9, 15, 1, 16, 17, 18, 19, 20, 21, 22, 23, 24, 25, 26, 27, 28, 29, 30, 31, 32, 33, 34, 35, 36, 37, 38, 39, 40, 41, 42, 43, 44, 45, 46, 47, 48, 49, 50, 51, 52, 53, 54, 55, 56, 57, 58, 59, 60, 61, 62, 63, 64, 65, 66, 67, 68, 69, 70, 71, 72, 73, 74, 75, 76, 77, 78, 79, 80, 81, 82, 83, 84, 85, 86, 87, 88, 89, 90, 91, 92, 93, 94, 95, 96, 97, 98, 99, 100, 101, 102, 103, 104, 126, 127, 128, 129, 130, 131, 132, 133, 149, 150, 151, 152, 153, 154, 134, 135, 136, 137, 138, 139, 140, 155, 156, 157, 158, 159, 160, 161, 162, 163] (by decide +kernel) (by decide +kernel)
set_option maxRecDepth 20000 in
theorem gX9_record_X9_judge : GoodIn wsX9_record (wsV RX9 238 RX9 yX9_judge wsX9_judge) := goodIn_app (goodIn_of _ (by decide +kernel)) ggX9_record_X9_judge
set_option maxRecDepth 20000 in
theorem ggX9_record_X9_countAheadOf : GoodIn wsX9_record wsX9_countAheadOf := goodIn_r _ [108, 1, 2, 109, 110, 111, 9, 112, 3, 113, 114, 115, 116, 117, 118, 119, 120, 121, 122, 123, 124, 80, 81, 125, 82, 83, 126, 127, 128, 129, 130, 131, 132, 133, 134, 135, 136, 137, 138, 139, 140, 141, 142, 143, 144, 145, 146, 147, 148] (by decide +kernel) (by decide +kernel)
set_option maxRecDepth 20000 in
theorem gX9_record_X9_countAheadOf : GoodIn wsX9_record (wsV RX9 241 RX9 yX9_countAheadOf wsX9_countAheadOf) := goodIn_app (goodIn_of _ (by decide +kernel)) ggX9_record_X9_countAheadOf
theorem dX9_record_0 : decode cX9_record 0 = .ok (.iload_n 1, 1) := by decide +kernel
theorem dX9_record_1 : decode cX9_record 1 = .ok (.ifCond .ge 6, 3) := by decide +kernel
theorem dX9_record_4 : decode cX9_record 4 = .ok (.bipush (-2), 2) := by decide +kernel
theorem dX9_record_6 : decode cX9_record 6 = .ok (.ireturn, 1) := by decide +kernel
theorem dX9_record_7 : decode cX9_record 7 = .ok (.iconst 0, 1) := by decide +kernel
theorem dX9_record_8 : decode cX9_record 8 = .ok (.istore_n 2, 1) := by decide +kernel
theorem dX9_record_9 : decode cX9_record 9 = .ok (.iload_n 2, 1) := by decide +kernel
theorem dX9_record_10 : decode cX9_record 10 = .ok (.aload_n 0, 1) := by decide +kernel
theorem dX9_record_11 : decode cX9_record 11 = .ok (.getfield 33, 3) := by decide +kernel
theorem dX9_record_14 : decode cX9_record 14 = .ok (.if_icmp .ge 43, 3) := by decide +kernel
theorem dX9_record_17 : decode cX9_record 17 = .ok (.aload_n 0, 1) := by decide +kernel
theorem dX9_record_18 : decode cX9_record 18 = .ok (.getfield 29, 3) := by decide +kernel
theorem dX9_record_21 : decode cX9_record 21 = .ok (.iload_n 2, 1) := by decide +kernel
theorem dX9_record_22 : decode cX9_record 22 = .ok (.aload_n 0, 1) := by decide +kernel
theorem dX9_record_23 : decode cX9_record 23 = .ok (.getfield 25, 3) := by decide +kernel
theorem dX9_record_26 : decode cX9_record 26 = .ok (.iload_n 2, 1) := by decide +kernel
theorem dX9_record_27 : decode cX9_record 27 = .ok (.aaload, 1) := by decide +kernel
theorem dX9_record_28 : decode cX9_record 28 = .ok (.getfield 121, 3) := by decide +kernel
theorem dX9_record_31 : decode cX9_record 31 = .ok (.getfield 125, 3) := by decide +kernel
theorem dX9_record_34 : decode cX9_record 34 = .ok (.ifCond .eq 15, 3) := by decide +kernel
theorem dX9_record_37 : decode cX9_record 37 = .ok (.aload_n 0, 1) := by decide +kernel
theorem dX9_record_38 : decode cX9_record 38 = .ok (.iload_n 2, 1) := by decide +kernel
theorem dX9_record_39 : decode cX9_record 39 = .ok (.invokevirtual 238, 3) := by decide +kernel
theorem dX9_record_42 : decode cX9_record 42 = .ok (.ifCond .ne 7, 3) := by decide +kernel
theorem dX9_record_45 : decode cX9_record 45 = .ok (.iconst 1, 1) := by decide +kernel
theorem dX9_record_46 : decode cX9_record 46 = .ok (.goto 4, 3) := by decide +kernel
theorem dX9_record_49 : decode cX9_record 49 = .ok (.iconst 0, 1) := by decide +kernel
theorem dX9_record_50 : decode cX9_record 50 = .ok (.bastore, 1) := by decide +kernel
theorem dX9_record_51 : decode cX9_record 51 = .ok (.iinc 2 1, 3) := by decide +kernel
theorem dX9_record_54 : decode cX9_record 54 = .ok (.goto (-45), 3) := by decide +kernel
theorem dX9_record_57 : decode cX9_record 57 = .ok (.iconst 0, 1) := by decide +kernel
theorem dX9_record_58 : decode cX9_record 58 = .ok (.istore_n 2, 1) := by decide +kernel
theorem dX9_record_59 : decode cX9_record 59 = .ok (.iload_n 2, 1) := by decide +kernel
theorem dX9_record_60 : decode cX9_record 60 = .ok (.aload_n 0, 1) := by decide +kernel
theorem dX9_record_61 : decode cX9_record 61 = .ok (.getfield 33, 3) := by decide +kernel
theorem dX9_record_64 : decode cX9_record 64 = .ok (.if_icmp .ge 29, 3) := by decide +kernel
theorem dX9_record_67 : decode cX9_record 67 = .ok (.aload_n 0, 1) := by decide +kernel
theorem dX9_record_68 : decode cX9_record 68 = .ok (.getfield 29, 3) := by decide +kernel
theorem dX9_record_71 : decode cX9_record 71 = .ok (.iload_n 2, 1) := by decide +kernel
theorem dX9_record_72 : decode cX9_record 72 = .ok (.baload, 1) := by decide +kernel
theorem dX9_record_73 : decode cX9_record 73 = .ok (.ifCond .eq 14, 3) := by decide +kernel
theorem dX9_record_76 : decode cX9_record 76 = .ok (.aload_n 0, 1) := by decide +kernel
theorem dX9_record_77 : decode cX9_record 77 = .ok (.iload_n 2, 1) := by decide +kernel
theorem dX9_record_78 : decode cX9_record 78 = .ok (.invokevirtual 241, 3) := by decide +kernel
theorem dX9_record_81 : decode cX9_record 81 = .ok (.iload_n 1, 1) := by decide +kernel
theorem dX9_record_82 : decode cX9_record 82 = .ok (.if_icmp .ne 5, 3) := by decide +kernel
theorem dX9_record_85 : decode cX9_record 85 = .ok (.iload_n 2, 1) := by decide +kernel
theorem dX9_record_86 : decode cX9_record 86 = .ok (.ireturn, 1) := by decide +kernel
theorem dX9_record_87 : decode cX9_record 87 = .ok (.iinc 2 1, 3) := by decide +kernel
theorem dX9_record_90 : decode cX9_record 90 = .ok (.goto (-31), 3) := by decide +kernel
theorem dX9_record_93 : decode cX9_record 93 = .ok (.iconst (-1), 1) := by decide +kernel
theorem dX9_record_94 : decode cX9_record 94 = .ok (.ireturn, 1) := by decide +kernel
set_option maxRecDepth 20000 in
theorem ggX9_count_X9_countGoing : GoodIn wsX9_count wsX9_countGoing := goodIn_r _ [11, 4, 12, 13, 14, 26, 27, 28, 29, 30, 31, 32, 33, 43, 44, 45, 46, 47, 48, 49, 50, 51, 52, 53, 54, 55, 56, 57] (by decide +kernel) (by decide +kernel)
set_option maxRecDepth 20000 in
theorem gX9_count_X9_countGoing : GoodIn wsX9_count (wsV RX9 250 RX9 yX9_countGoing wsX9_countGoing) := goodIn_app (goodIn_of _ (by decide +kernel)) ggX9_count_X9_countGoing
set_option maxRecDepth 20000 in
theorem ggX9_count_X5_countClosed : GoodIn wsX9_count wsX5_countClosed := goodIn_r _ [19, 20, 34, 35, 36] (by decide +kernel) (by decide +kernel)
set_option maxRecDepth 20000 in
theorem gX9_count_X5_countClosed : GoodIn wsX9_count (wsV RX9 253 RX5 yX5_countClosed wsX5_countClosed) := goodIn_app (goodIn_of _ (by decide +kernel)) ggX9_count_X5_countClosed
set_option maxRecDepth 20000 in
theorem ggX9_count_X9_countLost : GoodIn wsX9_count wsX9_countLost := goodIn_r _ [24, 4, 12, 25, 26, 27, 28, 29, 30, 31, 32, 33, 43, 44, 45, 46, 47, 48, 49] (by decide +kernel) (by decide +kernel)
set_option maxRecDepth 20000 in
theorem gX9_count_X9_countLost : GoodIn wsX9_count (wsV RX9 256 RX9 yX9_countLost wsX9_countLost) := goodIn_app (goodIn_of _ (by decide +kernel)) ggX9_count_X9_countLost
theorem dX9_count_0 : decode cX9_count 0 = .ok (.iload_n 1, 1) := by decide +kernel
theorem dX9_count_1 : decode cX9_count 1 = .ok (.tableswitch 90 0 6 #[43, 51, 59, 64, 69, 77, 85], 43) := by decide +kernel
theorem dX9_count_44 : decode cX9_count 44 = .ok (.aload_n 0, 1) := by decide +kernel
theorem dX9_count_45 : decode cX9_count 45 = .ok (.getfield 12, 3) := by decide +kernel
theorem dX9_count_48 : decode cX9_count 48 = .ok (.getfield 244, 3) := by decide +kernel
theorem dX9_count_51 : decode cX9_count 51 = .ok (.ireturn, 1) := by decide +kernel
theorem dX9_count_52 : decode cX9_count 52 = .ok (.aload_n 0, 1) := by decide +kernel
theorem dX9_count_53 : decode cX9_count 53 = .ok (.getfield 12, 3) := by decide +kernel
theorem dX9_count_56 : decode cX9_count 56 = .ok (.getfield 247, 3) := by decide +kernel
theorem dX9_count_59 : decode cX9_count 59 = .ok (.ireturn, 1) := by decide +kernel
theorem dX9_count_60 : decode cX9_count 60 = .ok (.aload_n 0, 1) := by decide +kernel
theorem dX9_count_61 : decode cX9_count 61 = .ok (.getfield 33, 3) := by decide +kernel
theorem dX9_count_64 : decode cX9_count 64 = .ok (.ireturn, 1) := by decide +kernel
theorem dX9_count_65 : decode cX9_count 65 = .ok (.aload_n 0, 1) := by decide +kernel
theorem dX9_count_66 : decode cX9_count 66 = .ok (.invokevirtual 250, 3) := by decide +kernel
theorem dX9_count_69 : decode cX9_count 69 = .ok (.ireturn, 1) := by decide +kernel
theorem dX9_count_70 : decode cX9_count 70 = .ok (.aload_n 0, 1) := by decide +kernel
theorem dX9_count_71 : decode cX9_count 71 = .ok (.getfield 64, 3) := by decide +kernel
theorem dX9_count_74 : decode cX9_count 74 = .ok (.getfield 77, 3) := by decide +kernel
theorem dX9_count_77 : decode cX9_count 77 = .ok (.ireturn, 1) := by decide +kernel
theorem dX9_count_78 : decode cX9_count 78 = .ok (.aload_n 0, 1) := by decide +kernel
theorem dX9_count_79 : decode cX9_count 79 = .ok (.getfield 12, 3) := by decide +kernel
theorem dX9_count_82 : decode cX9_count 82 = .ok (.invokevirtual 253, 3) := by decide +kernel
theorem dX9_count_85 : decode cX9_count 85 = .ok (.ireturn, 1) := by decide +kernel
theorem dX9_count_86 : decode cX9_count 86 = .ok (.aload_n 0, 1) := by decide +kernel
theorem dX9_count_87 : decode cX9_count 87 = .ok (.invokevirtual 256, 3) := by decide +kernel
theorem dX9_count_90 : decode cX9_count 90 = .ok (.ireturn, 1) := by decide +kernel
theorem dX9_count_91 : decode cX9_count 91 = .ok (.bipush (-2), 2) := by decide +kernel
theorem dX9_count_93 : decode cX9_count 93 = .ok (.ireturn, 1) := by decide +kernel
set_option maxRecDepth 20000 in
theorem ggX9_digest_X9_count : GoodIn wsX9_digest wsX9_count := goodIn_r _ [11, 12, 13, 14, 3, 4, 5, 15, 16, 17, 10, 18, 19, 20, 21, 22, 23, 24, 25, 26, 27, 28, 29, 30, 31, 32, 91, 92, 93, 94, 95, 96, 97, 98, 105, 106, 107, 99, 100, 101, 102, 103, 104, 108, 109, 110, 111, 112, 113, 114, 115, 116, 117, 118, 119, 120, 121, 122] (by decide +kernel) (by decide +kernel)
set_option maxRecDepth 20000 in
theorem gX9_digest_X9_count : GoodIn wsX9_digest (wsV RX9 263 RX9 yX9_count wsX9_count) := goodIn_app (goodIn_of _ (by decide +kernel)) ggX9_digest_X9_count
set_option maxRecDepth 20000 in
theorem ggX9_digest_X9_digestFlight : GoodIn wsX9_digest wsX9_digestFlight := goodIn_r _ [36, 2, 19, 37, 38, 39, 40, 10, 41, 42, 20, 43, 44, 45, 46, 47, 21, 48, 49, 50, 51, 52, 53, 3, 54, 55, 56, 57, 58, 59, 60, 61, 62, 63, 64, 65, 66, 67, 68, 69, 70, 71, 72, 73, 74, 75, 76, 77, 78, 79, 80, 81, 82, 83, 84, 85, 86, 87, 88, 89, 90, 91, 92, 93, 94, 95, 96, 97, 98, 108, 109, 110, 111, 112, 113, 114, 115, 116, 117, 118, 119, 120, 121, 122, 123, 124, 125, 126, 127] (by decide +kernel) (by decide +kernel)
set_option maxRecDepth 20000 in
theorem gX9_digest_X9_digestFlight : GoodIn wsX9_digest (wsV RX9 266 RX9 yX9_digestFlight wsX9_digestFlight) := goodIn_app (goodIn_of _ (by decide +kernel)) ggX9_digest_X9_digestFlight
set_option maxRecDepth 20000 in
theorem ggX9_digest_X9_xOf : GoodIn wsX9_digest wsX9_xOf := goodIn_r _ [59] (by decide +kernel) (by decide +kernel)
set_option maxRecDepth 20000 in
theorem gX9_digest_X9_xOf : GoodIn wsX9_digest (va_wsS RX9 145 yX9_xOf wsX9_xOf) := goodIn_app (goodIn_of _ (by decide +kernel)) ggX9_digest_X9_xOf
set_option maxRecDepth 20000 in
theorem ggX9_digest_X9_yOf : GoodIn wsX9_digest wsX9_yOf := goodIn_r _ [62] (by decide +kernel) (by decide +kernel)
set_option maxRecDepth 20000 in
theorem gX9_digest_X9_yOf : GoodIn wsX9_digest (va_wsS RX9 149 yX9_yOf wsX9_yOf) := goodIn_app (goodIn_of _ (by decide +kernel)) ggX9_digest_X9_yOf
theorem dX9_digest_0 : decode cX9_digest 0 = .ok (.ldc2_w 259, 3) := by decide +kernel
theorem dX9_digest_3 : decode cX9_digest 3 = .ok (.lstore_n 1, 1) := by decide +kernel
theorem dX9_digest_4 : decode cX9_digest 4 = .ok (.iconst 0, 1) := by decide +kernel
theorem dX9_digest_5 : decode cX9_digest 5 = .ok (.istore_n 3, 1) := by decide +kernel
theorem dX9_digest_6 : decode cX9_digest 6 = .ok (.iload_n 3, 1) := by decide +kernel
theorem dX9_digest_7 : decode cX9_digest 7 = .ok (.bipush 6, 2) := by decide +kernel
theorem dX9_digest_9 : decode cX9_digest 9 = .ok (.if_icmp .gt 22, 3) := by decide +kernel
theorem dX9_digest_12 : decode cX9_digest 12 = .ok (.ldc2_w 261, 3) := by decide +kernel
theorem dX9_digest_15 : decode cX9_digest 15 = .ok (.lload_n 1, 1) := by decide +kernel
theorem dX9_digest_16 : decode cX9_digest 16 = .ok (.lmul, 1) := by decide +kernel
theorem dX9_digest_17 : decode cX9_digest 17 = .ok (.aload_n 0, 1) := by decide +kernel
theorem dX9_digest_18 : decode cX9_digest 18 = .ok (.iload_n 3, 1) := by decide +kernel
theorem dX9_digest_19 : decode cX9_digest 19 = .ok (.invokevirtual 263, 3) := by decide +kernel
theorem dX9_digest_22 : decode cX9_digest 22 = .ok (.i2l, 1) := by decide +kernel
theorem dX9_digest_23 : decode cX9_digest 23 = .ok (.ladd, 1) := by decide +kernel
theorem dX9_digest_24 : decode cX9_digest 24 = .ok (.lstore_n 1, 1) := by decide +kernel
theorem dX9_digest_25 : decode cX9_digest 25 = .ok (.iinc 3 1, 3) := by decide +kernel
theorem dX9_digest_28 : decode cX9_digest 28 = .ok (.goto (-22), 3) := by decide +kernel
theorem dX9_digest_31 : decode cX9_digest 31 = .ok (.iconst 0, 1) := by decide +kernel
theorem dX9_digest_32 : decode cX9_digest 32 = .ok (.istore_n 3, 1) := by decide +kernel
theorem dX9_digest_33 : decode cX9_digest 33 = .ok (.iload_n 3, 1) := by decide +kernel
theorem dX9_digest_34 : decode cX9_digest 34 = .ok (.aload_n 0, 1) := by decide +kernel
theorem dX9_digest_35 : decode cX9_digest 35 = .ok (.getfield 33, 3) := by decide +kernel
theorem dX9_digest_38 : decode cX9_digest 38 = .ok (.if_icmp .ge 16, 3) := by decide +kernel
theorem dX9_digest_41 : decode cX9_digest 41 = .ok (.aload_n 0, 1) := by decide +kernel
theorem dX9_digest_42 : decode cX9_digest 42 = .ok (.lload_n 1, 1) := by decide +kernel
theorem dX9_digest_43 : decode cX9_digest 43 = .ok (.iload_n 3, 1) := by decide +kernel
theorem dX9_digest_44 : decode cX9_digest 44 = .ok (.invokevirtual 266, 3) := by decide +kernel
theorem dX9_digest_47 : decode cX9_digest 47 = .ok (.lstore_n 1, 1) := by decide +kernel
theorem dX9_digest_48 : decode cX9_digest 48 = .ok (.iinc 3 1, 3) := by decide +kernel
theorem dX9_digest_51 : decode cX9_digest 51 = .ok (.goto (-18), 3) := by decide +kernel
theorem dX9_digest_54 : decode cX9_digest 54 = .ok (.iconst 0, 1) := by decide +kernel
theorem dX9_digest_55 : decode cX9_digest 55 = .ok (.istore_n 3, 1) := by decide +kernel
theorem dX9_digest_56 : decode cX9_digest 56 = .ok (.iload_n 3, 1) := by decide +kernel
theorem dX9_digest_57 : decode cX9_digest 57 = .ok (.aload_n 0, 1) := by decide +kernel
theorem dX9_digest_58 : decode cX9_digest 58 = .ok (.getfield 64, 3) := by decide +kernel
theorem dX9_digest_61 : decode cX9_digest 61 = .ok (.getfield 77, 3) := by decide +kernel
theorem dX9_digest_64 : decode cX9_digest 64 = .ok (.if_icmp .ge 49, 3) := by decide +kernel
theorem dX9_digest_67 : decode cX9_digest 67 = .ok (.ldc2_w 261, 3) := by decide +kernel
theorem dX9_digest_70 : decode cX9_digest 70 = .ok (.lload_n 1, 1) := by decide +kernel
theorem dX9_digest_71 : decode cX9_digest 71 = .ok (.lmul, 1) := by decide +kernel
theorem dX9_digest_72 : decode cX9_digest 72 = .ok (.aload_n 0, 1) := by decide +kernel
theorem dX9_digest_73 : decode cX9_digest 73 = .ok (.getfield 64, 3) := by decide +kernel
theorem dX9_digest_76 : decode cX9_digest 76 = .ok (.getfield 270, 3) := by decide +kernel
theorem dX9_digest_79 : decode cX9_digest 79 = .ok (.iload_n 3, 1) := by decide +kernel
theorem dX9_digest_80 : decode cX9_digest 80 = .ok (.iaload, 1) := by decide +kernel
theorem dX9_digest_81 : decode cX9_digest 81 = .ok (.invokestatic 145, 3) := by decide +kernel
theorem dX9_digest_84 : decode cX9_digest 84 = .ok (.i2l, 1) := by decide +kernel
theorem dX9_digest_85 : decode cX9_digest 85 = .ok (.ladd, 1) := by decide +kernel
theorem dX9_digest_86 : decode cX9_digest 86 = .ok (.lstore_n 1, 1) := by decide +kernel
theorem dX9_digest_87 : decode cX9_digest 87 = .ok (.ldc2_w 261, 3) := by decide +kernel
theorem dX9_digest_90 : decode cX9_digest 90 = .ok (.lload_n 1, 1) := by decide +kernel
theorem dX9_digest_91 : decode cX9_digest 91 = .ok (.lmul, 1) := by decide +kernel
theorem dX9_digest_92 : decode cX9_digest 92 = .ok (.aload_n 0, 1) := by decide +kernel
theorem dX9_digest_93 : decode cX9_digest 93 = .ok (.getfield 64, 3) := by decide +kernel
theorem dX9_digest_96 : decode cX9_digest 96 = .ok (.getfield 270, 3) := by decide +kernel
theorem dX9_digest_99 : decode cX9_digest 99 = .ok (.iload_n 3, 1) := by decide +kernel
theorem dX9_digest_100 : decode cX9_digest 100 = .ok (.iaload, 1) := by decide +kernel
theorem dX9_digest_101 : decode cX9_digest 101 = .ok (.invokestatic 149, 3) := by decide +kernel
theorem dX9_digest_104 : decode cX9_digest 104 = .ok (.i2l, 1) := by decide +kernel
theorem dX9_digest_105 : decode cX9_digest 105 = .ok (.ladd, 1) := by decide +kernel
theorem dX9_digest_106 : decode cX9_digest 106 = .ok (.lstore_n 1, 1) := by decide +kernel
theorem dX9_digest_107 : decode cX9_digest 107 = .ok (.iinc 3 1, 3) := by decide +kernel
theorem dX9_digest_110 : decode cX9_digest 110 = .ok (.goto (-54), 3) := by decide +kernel
theorem dX9_digest_113 : decode cX9_digest 113 = .ok (.lload_n 1, 1) := by decide +kernel
theorem dX9_digest_114 : decode cX9_digest 114 = .ok (.lreturn, 1) := by decide +kernel
set_option maxRecDepth 20000 in
theorem ggX9_digestFlight_X9_about : GoodIn wsX9_digestFlight wsX9_about := goodIn_r _ [8, 9, 2, 10, 11, 12, 13, 14, 15, 16, 3, 17, 18, 19, 20, 21, 7, 22, 23, 24, 25, 26, 27, 28, 29, 30, 31, 32, 33, 34, 35, 36, 37, 38, 39, 40, 41, 42, 43, 44, 45, 46, 47, 48, 61, 62, 63, 64, 65, 66, 67, 68, 69, 70, 71, 72, 73, 74, 75, 76, 77, 78, 79, 80, 81, 82, 83, 84, 85, 86, 87, 88] (by decide +kernel) (by decide +kernel)
set_option maxRecDepth 20000 in
theorem gX9_digestFlight_X9_about : GoodIn wsX9_digestFlight (wsV RX9 273 RX9 yX9_about wsX9_about) := goodIn_app (goodIn_of _ (by decide +kernel)) ggX9_digestFlight_X9_about
set_option maxRecDepth 20000 in
theorem ggX9_digestFlight_X9_entry : GoodIn wsX9_digestFlight wsX9_entry := goodIn_r _ [52, 2, 3, 53, 54, 19, 20, 21, 7, 22, 23, 24, 25, 26, 55, 56, 57, 58, 59, 60, 27, 28, 29, 30, 31, 32, 61, 62, 63, 64, 65, 66, 67, 68, 69, 70, 71, 72, 73, 74, 75] (by decide +kernel) (by decide +kernel)
set_option maxRecDepth 20000 in
theorem gX9_digestFlight_X9_entry : GoodIn wsX9_digestFlight (wsV RX9 276 RX9 yX9_entry wsX9_entry) := goodIn_app (goodIn_of _ (by decide +kernel)) ggX9_digestFlight_X9_entry
theorem dX9_digestFlight_0 : decode cX9_digestFlight 0 = .ok (.lload_n 1, 1) := by decide +kernel
theorem dX9_digestFlight_1 : decode cX9_digestFlight 1 = .ok (.lstore 4, 2) := by decide +kernel
theorem dX9_digestFlight_3 : decode cX9_digestFlight 3 = .ok (.iconst 0, 1) := by decide +kernel
theorem dX9_digestFlight_4 : decode cX9_digestFlight 4 = .ok (.istore 6, 2) := by decide +kernel
theorem dX9_digestFlight_6 : decode cX9_digestFlight 6 = .ok (.iload 6, 2) := by decide +kernel
theorem dX9_digestFlight_8 : decode cX9_digestFlight 8 = .ok (.bipush 9, 2) := by decide +kernel
theorem dX9_digestFlight_10 : decode cX9_digestFlight 10 = .ok (.if_icmp .gt 26, 3) := by decide +kernel
theorem dX9_digestFlight_13 : decode cX9_digestFlight 13 = .ok (.ldc2_w 261, 3) := by decide +kernel
theorem dX9_digestFlight_16 : decode cX9_digestFlight 16 = .ok (.lload 4, 2) := by decide +kernel
theorem dX9_digestFlight_18 : decode cX9_digestFlight 18 = .ok (.lmul, 1) := by decide +kernel
theorem dX9_digestFlight_19 : decode cX9_digestFlight 19 = .ok (.aload_n 0, 1) := by decide +kernel
theorem dX9_digestFlight_20 : decode cX9_digestFlight 20 = .ok (.iload_n 3, 1) := by decide +kernel
theorem dX9_digestFlight_21 : decode cX9_digestFlight 21 = .ok (.iload 6, 2) := by decide +kernel
theorem dX9_digestFlight_23 : decode cX9_digestFlight 23 = .ok (.invokevirtual 273, 3) := by decide +kernel
theorem dX9_digestFlight_26 : decode cX9_digestFlight 26 = .ok (.i2l, 1) := by decide +kernel
theorem dX9_digestFlight_27 : decode cX9_digestFlight 27 = .ok (.ladd, 1) := by decide +kernel
theorem dX9_digestFlight_28 : decode cX9_digestFlight 28 = .ok (.lstore 4, 2) := by decide +kernel
theorem dX9_digestFlight_30 : decode cX9_digestFlight 30 = .ok (.iinc 6 1, 3) := by decide +kernel
theorem dX9_digestFlight_33 : decode cX9_digestFlight 33 = .ok (.goto (-27), 3) := by decide +kernel
theorem dX9_digestFlight_36 : decode cX9_digestFlight 36 = .ok (.iconst 0, 1) := by decide +kernel
theorem dX9_digestFlight_37 : decode cX9_digestFlight 37 = .ok (.istore 6, 2) := by decide +kernel
theorem dX9_digestFlight_39 : decode cX9_digestFlight 39 = .ok (.iload 6, 2) := by decide +kernel
theorem dX9_digestFlight_41 : decode cX9_digestFlight 41 = .ok (.aload_n 0, 1) := by decide +kernel
theorem dX9_digestFlight_42 : decode cX9_digestFlight 42 = .ok (.getfield 25, 3) := by decide +kernel
theorem dX9_digestFlight_45 : decode cX9_digestFlight 45 = .ok (.iload_n 3, 1) := by decide +kernel
theorem dX9_digestFlight_46 : decode cX9_digestFlight 46 = .ok (.aaload, 1) := by decide +kernel
theorem dX9_digestFlight_47 : decode cX9_digestFlight 47 = .ok (.getfield 131, 3) := by decide +kernel
theorem dX9_digestFlight_50 : decode cX9_digestFlight 50 = .ok (.if_icmp .ge 43, 3) := by decide +kernel
theorem dX9_digestFlight_53 : decode cX9_digestFlight 53 = .ok (.iconst 0, 1) := by decide +kernel
theorem dX9_digestFlight_54 : decode cX9_digestFlight 54 = .ok (.istore 7, 2) := by decide +kernel
theorem dX9_digestFlight_56 : decode cX9_digestFlight 56 = .ok (.iload 7, 2) := by decide +kernel
theorem dX9_digestFlight_58 : decode cX9_digestFlight 58 = .ok (.iconst 2, 1) := by decide +kernel
theorem dX9_digestFlight_59 : decode cX9_digestFlight 59 = .ok (.if_icmp .gt 28, 3) := by decide +kernel
theorem dX9_digestFlight_62 : decode cX9_digestFlight 62 = .ok (.ldc2_w 261, 3) := by decide +kernel
theorem dX9_digestFlight_65 : decode cX9_digestFlight 65 = .ok (.lload 4, 2) := by decide +kernel
theorem dX9_digestFlight_67 : decode cX9_digestFlight 67 = .ok (.lmul, 1) := by decide +kernel
theorem dX9_digestFlight_68 : decode cX9_digestFlight 68 = .ok (.aload_n 0, 1) := by decide +kernel
theorem dX9_digestFlight_69 : decode cX9_digestFlight 69 = .ok (.iload_n 3, 1) := by decide +kernel
theorem dX9_digestFlight_70 : decode cX9_digestFlight 70 = .ok (.iload 6, 2) := by decide +kernel
theorem dX9_digestFlight_72 : decode cX9_digestFlight 72 = .ok (.iload 7, 2) := by decide +kernel
theorem dX9_digestFlight_74 : decode cX9_digestFlight 74 = .ok (.invokevirtual 276, 3) := by decide +kernel
theorem dX9_digestFlight_77 : decode cX9_digestFlight 77 = .ok (.i2l, 1) := by decide +kernel
theorem dX9_digestFlight_78 : decode cX9_digestFlight 78 = .ok (.ladd, 1) := by decide +kernel
theorem dX9_digestFlight_79 : decode cX9_digestFlight 79 = .ok (.lstore 4, 2) := by decide +kernel
theorem dX9_digestFlight_81 : decode cX9_digestFlight 81 = .ok (.iinc 7 1, 3) := by decide +kernel
theorem dX9_digestFlight_84 : decode cX9_digestFlight 84 = .ok (.goto (-28), 3) := by decide +kernel
theorem dX9_digestFlight_87 : decode cX9_digestFlight 87 = .ok (.iinc 6 1, 3) := by decide +kernel
theorem dX9_digestFlight_90 : decode cX9_digestFlight 90 = .ok (.goto (-51), 3) := by decide +kernel
theorem dX9_digestFlight_93 : decode cX9_digestFlight 93 = .ok (.lload 4, 2) := by decide +kernel
theorem dX9_digestFlight_95 : decode cX9_digestFlight 95 = .ok (.lreturn, 1) := by decide +kernel
set_option maxRecDepth 20000 in
theorem ggX9_isFlight_X9_within : GoodIn wsX9_isFlight wsX9_within := goodIn_r _ [5] (by decide +kernel) (by decide +kernel)
set_option maxRecDepth 20000 in
theorem gX9_isFlight_X9_within : GoodIn wsX9_isFlight (va_wsS RX9 69 yX9_within wsX9_within) := goodIn_app (goodIn_of _ (by decide +kernel)) ggX9_isFlight_X9_within
theorem dX9_isFlight_0 : decode cX9_isFlight 0 = .ok (.iload_n 1, 1) := by decide +kernel
theorem dX9_isFlight_1 : decode cX9_isFlight 1 = .ok (.iconst 0, 1) := by decide +kernel
theorem dX9_isFlight_2 : decode cX9_isFlight 2 = .ok (.aload_n 0, 1) := by decide +kernel
theorem dX9_isFlight_3 : decode cX9_isFlight 3 = .ok (.getfield 33, 3) := by decide +kernel
theorem dX9_isFlight_6 : decode cX9_isFlight 6 = .ok (.iconst 1, 1) := by decide +kernel
theorem dX9_isFlight_7 : decode cX9_isFlight 7 = .ok (.isub, 1) := by decide +kernel
theorem dX9_isFlight_8 : decode cX9_isFlight 8 = .ok (.invokestatic 69, 3) := by decide +kernel
theorem dX9_isFlight_11 : decode cX9_isFlight 11 = .ok (.ireturn, 1) := by decide +kernel
set_option maxRecDepth 20000 in
theorem ggX9_mayPlan_X9_isFlight : GoodIn wsX9_mayPlan wsX9_isFlight := goodIn_r _ [5, 6, 7, 8, 4, 9, 10, 11, 12, 13, 14, 15, 16, 17] (by decide +kernel) (by decide +kernel)
set_option maxRecDepth 20000 in
theorem gX9_mayPlan_X9_isFlight : GoodIn wsX9_mayPlan (wsV RX9 118 RX9 yX9_isFlight wsX9_isFlight) := goodIn_app (goodIn_of _ (by decide +kernel)) ggX9_mayPlan_X9_isFlight
set_option maxRecDepth 20000 in
theorem ggX9_mayPlan_X9_within : GoodIn wsX9_mayPlan wsX9_within := goodIn_r _ [9] (by decide +kernel) (by decide +kernel)
set_option maxRecDepth 20000 in
theorem gX9_mayPlan_X9_within : GoodIn wsX9_mayPlan (va_wsS RX9 69 yX9_within wsX9_within) := goodIn_app (goodIn_of _ (by decide +kernel)) ggX9_mayPlan_X9_within
theorem dX9_mayPlan_0 : decode cX9_mayPlan 0 = .ok (.aload_n 0, 1) := by decide +kernel
theorem dX9_mayPlan_1 : decode cX9_mayPlan 1 = .ok (.iload_n 1, 1) := by decide +kernel
theorem dX9_mayPlan_2 : decode cX9_mayPlan 2 = .ok (.invokevirtual 118, 3) := by decide +kernel
theorem dX9_mayPlan_5 : decode cX9_mayPlan 5 = .ok (.ifCond .eq 27, 3) := by decide +kernel
theorem dX9_mayPlan_8 : decode cX9_mayPlan 8 = .ok (.iload_n 2, 1) := by decide +kernel
theorem dX9_mayPlan_9 : decode cX9_mayPlan 9 = .ok (.iconst 1, 1) := by decide +kernel
theorem dX9_mayPlan_10 : decode cX9_mayPlan 10 = .ok (.bipush 6, 2) := by decide +kernel
theorem dX9_mayPlan_12 : decode cX9_mayPlan 12 = .ok (.invokestatic 69, 3) := by decide +kernel
theorem dX9_mayPlan_15 : decode cX9_mayPlan 15 = .ok (.ifCond .eq 17, 3) := by decide +kernel
theorem dX9_mayPlan_18 : decode cX9_mayPlan 18 = .ok (.iload_n 3, 1) := by decide +kernel
theorem dX9_mayPlan_19 : decode cX9_mayPlan 19 = .ok (.iconst 1, 1) := by decide +kernel
theorem dX9_mayPlan_20 : decode cX9_mayPlan 20 = .ok (.bipush 50, 2) := by decide +kernel
theorem dX9_mayPlan_22 : decode cX9_mayPlan 22 = .ok (.invokestatic 69, 3) := by decide +kernel
theorem dX9_mayPlan_25 : decode cX9_mayPlan 25 = .ok (.ifCond .eq 7, 3) := by decide +kernel
theorem dX9_mayPlan_28 : decode cX9_mayPlan 28 = .ok (.iconst 1, 1) := by decide +kernel
theorem dX9_mayPlan_29 : decode cX9_mayPlan 29 = .ok (.goto 4, 3) := by decide +kernel
theorem dX9_mayPlan_32 : decode cX9_mayPlan 32 = .ok (.iconst 0, 1) := by decide +kernel
theorem dX9_mayPlan_33 : decode cX9_mayPlan 33 = .ok (.ireturn, 1) := by decide +kernel
set_option maxRecDepth 20000 in
theorem ggX9_countAheadOf_X9_isAhead : GoodIn wsX9_countAheadOf wsX9_isAhead := goodIn_r _ [7, 8, 9, 10, 11, 12, 13, 14, 15, 16, 17, 18, 6, 19, 20, 21, 22, 23, 24, 25, 26, 27, 28, 29, 30, 31, 32, 33, 34, 35, 36, 37, 38, 39, 40, 41, 42, 43, 44, 45, 46, 47, 48] (by decide +kernel) (by decide +kernel)
set_option maxRecDepth 20000 in
theorem gX9_countAheadOf_X9_isAhead : GoodIn wsX9_countAheadOf (wsV RX9 280 RX9 yX9_isAhead wsX9_isAhead) := goodIn_app (goodIn_of _ (by decide +kernel)) ggX9_countAheadOf_X9_isAhead
theorem dX9_countAheadOf_0 : decode cX9_countAheadOf 0 = .ok (.iconst 0, 1) := by decide +kernel
theorem dX9_countAheadOf_1 : decode cX9_countAheadOf 1 = .ok (.istore_n 2, 1) := by decide +kernel
theorem dX9_countAheadOf_2 : decode cX9_countAheadOf 2 = .ok (.iconst 0, 1) := by decide +kernel
theorem dX9_countAheadOf_3 : decode cX9_countAheadOf 3 = .ok (.istore_n 3, 1) := by decide +kernel
theorem dX9_countAheadOf_4 : decode cX9_countAheadOf 4 = .ok (.iload_n 3, 1) := by decide +kernel
theorem dX9_countAheadOf_5 : decode cX9_countAheadOf 5 = .ok (.aload_n 0, 1) := by decide +kernel
theorem dX9_countAheadOf_6 : decode cX9_countAheadOf 6 = .ok (.getfield 33, 3) := by decide +kernel
theorem dX9_countAheadOf_9 : decode cX9_countAheadOf 9 = .ok (.if_icmp .ge 35, 3) := by decide +kernel
theorem dX9_countAheadOf_12 : decode cX9_countAheadOf 12 = .ok (.iload_n 3, 1) := by decide +kernel
theorem dX9_countAheadOf_13 : decode cX9_countAheadOf 13 = .ok (.iload_n 1, 1) := by decide +kernel
theorem dX9_countAheadOf_14 : decode cX9_countAheadOf 14 = .ok (.if_icmp .eq 24, 3) := by decide +kernel
theorem dX9_countAheadOf_17 : decode cX9_countAheadOf 17 = .ok (.aload_n 0, 1) := by decide +kernel
theorem dX9_countAheadOf_18 : decode cX9_countAheadOf 18 = .ok (.getfield 29, 3) := by decide +kernel
theorem dX9_countAheadOf_21 : decode cX9_countAheadOf 21 = .ok (.iload_n 3, 1) := by decide +kernel
theorem dX9_countAheadOf_22 : decode cX9_countAheadOf 22 = .ok (.baload, 1) := by decide +kernel
theorem dX9_countAheadOf_23 : decode cX9_countAheadOf 23 = .ok (.ifCond .eq 15, 3) := by decide +kernel
theorem dX9_countAheadOf_26 : decode cX9_countAheadOf 26 = .ok (.aload_n 0, 1) := by decide +kernel
theorem dX9_countAheadOf_27 : decode cX9_countAheadOf 27 = .ok (.iload_n 3, 1) := by decide +kernel
theorem dX9_countAheadOf_28 : decode cX9_countAheadOf 28 = .ok (.iload_n 1, 1) := by decide +kernel
theorem dX9_countAheadOf_29 : decode cX9_countAheadOf 29 = .ok (.invokevirtual 280, 3) := by decide +kernel
theorem dX9_countAheadOf_32 : decode cX9_countAheadOf 32 = .ok (.ifCond .eq 6, 3) := by decide +kernel
theorem dX9_countAheadOf_35 : decode cX9_countAheadOf 35 = .ok (.iinc 2 1, 3) := by decide +kernel
theorem dX9_countAheadOf_38 : decode cX9_countAheadOf 38 = .ok (.iinc 3 1, 3) := by decide +kernel
theorem dX9_countAheadOf_41 : decode cX9_countAheadOf 41 = .ok (.goto (-37), 3) := by decide +kernel
theorem dX9_countAheadOf_44 : decode cX9_countAheadOf 44 = .ok (.iload_n 2, 1) := by decide +kernel
theorem dX9_countAheadOf_45 : decode cX9_countAheadOf 45 = .ok (.ireturn, 1) := by decide +kernel
set_option maxRecDepth 20000 in
theorem ggX9_isAhead_X3_flown : GoodIn wsX9_isAhead wsX3_flown := goodIn_r _ [7, 8, 9, 10, 11, 12, 13, 14, 15, 16, 17, 18, 19, 28, 29, 30, 31, 32, 33, 34, 35, 36, 37, 38, 39, 40, 41, 42] (by decide +kernel) (by decide +kernel)
set_option maxRecDepth 20000 in
theorem gX9_isAhead_X3_flown : GoodIn wsX9_isAhead (wsV RX9 171 RX3 yX3_flown wsX3_flown) := goodIn_app (goodIn_of _ (by decide +kernel)) ggX9_isAhead_X3_flown
theorem dX9_isAhead_0 : decode cX9_isAhead 0 = .ok (.aload_n 0, 1) := by decide +kernel
theorem dX9_isAhead_1 : decode cX9_isAhead 1 = .ok (.getfield 25, 3) := by decide +kernel
theorem dX9_isAhead_4 : decode cX9_isAhead 4 = .ok (.iload_n 1, 1) := by decide +kernel
theorem dX9_isAhead_5 : decode cX9_isAhead 5 = .ok (.aaload, 1) := by decide +kernel
theorem dX9_isAhead_6 : decode cX9_isAhead 6 = .ok (.invokevirtual 171, 3) := by decide +kernel
theorem dX9_isAhead_9 : decode cX9_isAhead 9 = .ok (.aload_n 0, 1) := by decide +kernel
theorem dX9_isAhead_10 : decode cX9_isAhead 10 = .ok (.getfield 25, 3) := by decide +kernel
theorem dX9_isAhead_13 : decode cX9_isAhead 13 = .ok (.iload_n 2, 1) := by decide +kernel
theorem dX9_isAhead_14 : decode cX9_isAhead 14 = .ok (.aaload, 1) := by decide +kernel
theorem dX9_isAhead_15 : decode cX9_isAhead 15 = .ok (.invokevirtual 171, 3) := by decide +kernel
theorem dX9_isAhead_18 : decode cX9_isAhead 18 = .ok (.isub, 1) := by decide +kernel
theorem dX9_isAhead_19 : decode cX9_isAhead 19 = .ok (.istore_n 3, 1) := by decide +kernel
theorem dX9_isAhead_20 : decode cX9_isAhead 20 = .ok (.iload_n 3, 1) := by decide +kernel
theorem dX9_isAhead_21 : decode cX9_isAhead 21 = .ok (.ifCond .eq 13, 3) := by decide +kernel
theorem dX9_isAhead_24 : decode cX9_isAhead 24 = .ok (.iload_n 3, 1) := by decide +kernel
theorem dX9_isAhead_25 : decode cX9_isAhead 25 = .ok (.ifCond .le 7, 3) := by decide +kernel
theorem dX9_isAhead_28 : decode cX9_isAhead 28 = .ok (.iconst 1, 1) := by decide +kernel
theorem dX9_isAhead_29 : decode cX9_isAhead 29 = .ok (.goto 4, 3) := by decide +kernel
theorem dX9_isAhead_32 : decode cX9_isAhead 32 = .ok (.iconst 0, 1) := by decide +kernel
theorem dX9_isAhead_33 : decode cX9_isAhead 33 = .ok (.ireturn, 1) := by decide +kernel
theorem dX9_isAhead_34 : decode cX9_isAhead 34 = .ok (.aload_n 0, 1) := by decide +kernel
theorem dX9_isAhead_35 : decode cX9_isAhead 35 = .ok (.getfield 25, 3) := by decide +kernel
theorem dX9_isAhead_38 : decode cX9_isAhead 38 = .ok (.iload_n 1, 1) := by decide +kernel
theorem dX9_isAhead_39 : decode cX9_isAhead 39 = .ok (.aaload, 1) := by decide +kernel
theorem dX9_isAhead_40 : decode cX9_isAhead 40 = .ok (.getfield 131, 3) := by decide +kernel
theorem dX9_isAhead_43 : decode cX9_isAhead 43 = .ok (.aload_n 0, 1) := by decide +kernel
theorem dX9_isAhead_44 : decode cX9_isAhead 44 = .ok (.getfield 25, 3) := by decide +kernel
theorem dX9_isAhead_47 : decode cX9_isAhead 47 = .ok (.iload_n 2, 1) := by decide +kernel
theorem dX9_isAhead_48 : decode cX9_isAhead 48 = .ok (.aaload, 1) := by decide +kernel
theorem dX9_isAhead_49 : decode cX9_isAhead 49 = .ok (.getfield 131, 3) := by decide +kernel
theorem dX9_isAhead_52 : decode cX9_isAhead 52 = .ok (.isub, 1) := by decide +kernel
theorem dX9_isAhead_53 : decode cX9_isAhead 53 = .ok (.istore 4, 2) := by decide +kernel
theorem dX9_isAhead_55 : decode cX9_isAhead 55 = .ok (.iload 4, 2) := by decide +kernel
theorem dX9_isAhead_57 : decode cX9_isAhead 57 = .ok (.ifCond .eq 16, 3) := by decide +kernel
theorem dX9_isAhead_60 : decode cX9_isAhead 60 = .ok (.iload 4, 2) := by decide +kernel
theorem dX9_isAhead_62 : decode cX9_isAhead 62 = .ok (.ifCond .ge 7, 3) := by decide +kernel
theorem dX9_isAhead_65 : decode cX9_isAhead 65 = .ok (.iconst 1, 1) := by decide +kernel
theorem dX9_isAhead_66 : decode cX9_isAhead 66 = .ok (.goto 17, 3) := by decide +kernel
theorem dX9_isAhead_69 : decode cX9_isAhead 69 = .ok (.iconst 0, 1) := by decide +kernel
theorem dX9_isAhead_70 : decode cX9_isAhead 70 = .ok (.goto 13, 3) := by decide +kernel
theorem dX9_isAhead_73 : decode cX9_isAhead 73 = .ok (.iload_n 1, 1) := by decide +kernel
theorem dX9_isAhead_74 : decode cX9_isAhead 74 = .ok (.iload_n 2, 1) := by decide +kernel
theorem dX9_isAhead_75 : decode cX9_isAhead 75 = .ok (.if_icmp .ge 7, 3) := by decide +kernel
theorem dX9_isAhead_78 : decode cX9_isAhead 78 = .ok (.iconst 1, 1) := by decide +kernel
theorem dX9_isAhead_79 : decode cX9_isAhead 79 = .ok (.goto 4, 3) := by decide +kernel
theorem dX9_isAhead_82 : decode cX9_isAhead 82 = .ok (.iconst 0, 1) := by decide +kernel
theorem dX9_isAhead_83 : decode cX9_isAhead 83 = .ok (.ireturn, 1) := by decide +kernel
theorem dX9_countGoing_0 : decode cX9_countGoing 0 = .ok (.iconst 0, 1) := by decide +kernel
theorem dX9_countGoing_1 : decode cX9_countGoing 1 = .ok (.istore_n 1, 1) := by decide +kernel
theorem dX9_countGoing_2 : decode cX9_countGoing 2 = .ok (.iconst 0, 1) := by decide +kernel
theorem dX9_countGoing_3 : decode cX9_countGoing 3 = .ok (.istore_n 2, 1) := by decide +kernel
theorem dX9_countGoing_4 : decode cX9_countGoing 4 = .ok (.iload_n 2, 1) := by decide +kernel
theorem dX9_countGoing_5 : decode cX9_countGoing 5 = .ok (.aload_n 0, 1) := by decide +kernel
theorem dX9_countGoing_6 : decode cX9_countGoing 6 = .ok (.getfield 33, 3) := by decide +kernel
theorem dX9_countGoing_9 : decode cX9_countGoing 9 = .ok (.if_icmp .ge 27, 3) := by decide +kernel
theorem dX9_countGoing_12 : decode cX9_countGoing 12 = .ok (.aload_n 0, 1) := by decide +kernel
theorem dX9_countGoing_13 : decode cX9_countGoing 13 = .ok (.getfield 25, 3) := by decide +kernel
theorem dX9_countGoing_16 : decode cX9_countGoing 16 = .ok (.iload_n 2, 1) := by decide +kernel
theorem dX9_countGoing_17 : decode cX9_countGoing 17 = .ok (.aaload, 1) := by decide +kernel
theorem dX9_countGoing_18 : decode cX9_countGoing 18 = .ok (.getfield 121, 3) := by decide +kernel
theorem dX9_countGoing_21 : decode cX9_countGoing 21 = .ok (.getfield 125, 3) := by decide +kernel
theorem dX9_countGoing_24 : decode cX9_countGoing 24 = .ok (.ifCond .ne 6, 3) := by decide +kernel
theorem dX9_countGoing_27 : decode cX9_countGoing 27 = .ok (.iinc 1 1, 3) := by decide +kernel
theorem dX9_countGoing_30 : decode cX9_countGoing 30 = .ok (.iinc 2 1, 3) := by decide +kernel
theorem dX9_countGoing_33 : decode cX9_countGoing 33 = .ok (.goto (-29), 3) := by decide +kernel
theorem dX9_countGoing_36 : decode cX9_countGoing 36 = .ok (.iload_n 1, 1) := by decide +kernel
theorem dX9_countGoing_37 : decode cX9_countGoing 37 = .ok (.ireturn, 1) := by decide +kernel
theorem dX9_countLost_0 : decode cX9_countLost 0 = .ok (.iconst 0, 1) := by decide +kernel
theorem dX9_countLost_1 : decode cX9_countLost 1 = .ok (.istore_n 1, 1) := by decide +kernel
theorem dX9_countLost_2 : decode cX9_countLost 2 = .ok (.iconst 0, 1) := by decide +kernel
theorem dX9_countLost_3 : decode cX9_countLost 3 = .ok (.istore_n 2, 1) := by decide +kernel
theorem dX9_countLost_4 : decode cX9_countLost 4 = .ok (.iload_n 2, 1) := by decide +kernel
theorem dX9_countLost_5 : decode cX9_countLost 5 = .ok (.aload_n 0, 1) := by decide +kernel
theorem dX9_countLost_6 : decode cX9_countLost 6 = .ok (.getfield 33, 3) := by decide +kernel
theorem dX9_countLost_9 : decode cX9_countLost 9 = .ok (.if_icmp .ge 21, 3) := by decide +kernel
theorem dX9_countLost_12 : decode cX9_countLost 12 = .ok (.iload_n 1, 1) := by decide +kernel
theorem dX9_countLost_13 : decode cX9_countLost 13 = .ok (.aload_n 0, 1) := by decide +kernel
theorem dX9_countLost_14 : decode cX9_countLost 14 = .ok (.getfield 25, 3) := by decide +kernel
theorem dX9_countLost_17 : decode cX9_countLost 17 = .ok (.iload_n 2, 1) := by decide +kernel
theorem dX9_countLost_18 : decode cX9_countLost 18 = .ok (.aaload, 1) := by decide +kernel
theorem dX9_countLost_19 : decode cX9_countLost 19 = .ok (.getfield 283, 3) := by decide +kernel
theorem dX9_countLost_22 : decode cX9_countLost 22 = .ok (.iadd, 1) := by decide +kernel
theorem dX9_countLost_23 : decode cX9_countLost 23 = .ok (.istore_n 1, 1) := by decide +kernel
theorem dX9_countLost_24 : decode cX9_countLost 24 = .ok (.iinc 2 1, 3) := by decide +kernel
theorem dX9_countLost_27 : decode cX9_countLost 27 = .ok (.goto (-23), 3) := by decide +kernel
theorem dX9_countLost_30 : decode cX9_countLost 30 = .ok (.iload_n 1, 1) := by decide +kernel
theorem dX9_countLost_31 : decode cX9_countLost 31 = .ok (.ireturn, 1) := by decide +kernel
theorem dX9_within_0 : decode cX9_within 0 = .ok (.iload_n 0, 1) := by decide +kernel
theorem dX9_within_1 : decode cX9_within 1 = .ok (.iload_n 1, 1) := by decide +kernel
theorem dX9_within_2 : decode cX9_within 2 = .ok (.if_icmp .lt 12, 3) := by decide +kernel
theorem dX9_within_5 : decode cX9_within 5 = .ok (.iload_n 0, 1) := by decide +kernel
theorem dX9_within_6 : decode cX9_within 6 = .ok (.iload_n 2, 1) := by decide +kernel
theorem dX9_within_7 : decode cX9_within 7 = .ok (.if_icmp .gt 7, 3) := by decide +kernel
theorem dX9_within_10 : decode cX9_within 10 = .ok (.iconst 1, 1) := by decide +kernel
theorem dX9_within_11 : decode cX9_within 11 = .ok (.goto 4, 3) := by decide +kernel
theorem dX9_within_14 : decode cX9_within 14 = .ok (.iconst 0, 1) := by decide +kernel
theorem dX9_within_15 : decode cX9_within 15 = .ok (.ireturn, 1) := by decide +kernel
theorem dX9_cellOf_0 : decode cX9_cellOf 0 = .ok (.iload_n 1, 1) := by decide +kernel
theorem dX9_cellOf_1 : decode cX9_cellOf 1 = .ok (.bipush 24, 2) := by decide +kernel
theorem dX9_cellOf_3 : decode cX9_cellOf 3 = .ok (.imul, 1) := by decide +kernel
theorem dX9_cellOf_4 : decode cX9_cellOf 4 = .ok (.iload_n 0, 1) := by decide +kernel
theorem dX9_cellOf_5 : decode cX9_cellOf 5 = .ok (.iadd, 1) := by decide +kernel
theorem dX9_cellOf_6 : decode cX9_cellOf 6 = .ok (.ireturn, 1) := by decide +kernel
theorem dX9_xOf_0 : decode cX9_xOf 0 = .ok (.iload_n 0, 1) := by decide +kernel
theorem dX9_xOf_1 : decode cX9_xOf 1 = .ok (.bipush 24, 2) := by decide +kernel
theorem dX9_xOf_3 : decode cX9_xOf 3 = .ok (.irem, 1) := by decide +kernel
theorem dX9_xOf_4 : decode cX9_xOf 4 = .ok (.ireturn, 1) := by decide +kernel
theorem dX9_yOf_0 : decode cX9_yOf 0 = .ok (.iload_n 0, 1) := by decide +kernel
theorem dX9_yOf_1 : decode cX9_yOf 1 = .ok (.bipush 24, 2) := by decide +kernel
theorem dX9_yOf_3 : decode cX9_yOf 3 = .ok (.idiv, 1) := by decide +kernel
theorem dX9_yOf_4 : decode cX9_yOf 4 = .ok (.ireturn, 1) := by decide +kernel
theorem dX9_placeOf_0 : decode cX9_placeOf 0 = .ok (.iload_n 0, 1) := by decide +kernel
theorem dX9_placeOf_1 : decode cX9_placeOf 1 = .ok (.bipush 8, 2) := by decide +kernel
theorem dX9_placeOf_3 : decode cX9_placeOf 3 = .ok (.imul, 1) := by decide +kernel
theorem dX9_placeOf_4 : decode cX9_placeOf 4 = .ok (.iload_n 1, 1) := by decide +kernel
theorem dX9_placeOf_5 : decode cX9_placeOf 5 = .ok (.iadd, 1) := by decide +kernel
theorem dX9_placeOf_6 : decode cX9_placeOf 6 = .ok (.ireturn, 1) := by decide +kernel
theorem dX9_cellOfPlace_0 : decode cX9_cellOfPlace 0 = .ok (.iload_n 0, 1) := by decide +kernel
theorem dX9_cellOfPlace_1 : decode cX9_cellOfPlace 1 = .ok (.bipush 8, 2) := by decide +kernel
theorem dX9_cellOfPlace_3 : decode cX9_cellOfPlace 3 = .ok (.idiv, 1) := by decide +kernel
theorem dX9_cellOfPlace_4 : decode cX9_cellOfPlace 4 = .ok (.ireturn, 1) := by decide +kernel
theorem dX9_levelOfPlace_0 : decode cX9_levelOfPlace 0 = .ok (.iload_n 0, 1) := by decide +kernel
theorem dX9_levelOfPlace_1 : decode cX9_levelOfPlace 1 = .ok (.bipush 8, 2) := by decide +kernel
theorem dX9_levelOfPlace_3 : decode cX9_levelOfPlace 3 = .ok (.irem, 1) := by decide +kernel
theorem dX9_levelOfPlace_4 : decode cX9_levelOfPlace 4 = .ok (.ireturn, 1) := by decide +kernel
set_option maxRecDepth 20000 in
theorem ggX9_squareBetween_X9_xOf : GoodIn wsX9_squareBetween wsX9_xOf := goodIn_r _ [4] (by decide +kernel) (by decide +kernel)
set_option maxRecDepth 20000 in
theorem gX9_squareBetween_X9_xOf : GoodIn wsX9_squareBetween (va_wsS RX9 145 yX9_xOf wsX9_xOf) := goodIn_app (goodIn_of _ (by decide +kernel)) ggX9_squareBetween_X9_xOf
set_option maxRecDepth 20000 in
theorem ggX9_squareBetween_X9_yOf : GoodIn wsX9_squareBetween wsX9_yOf := goodIn_r _ [7] (by decide +kernel) (by decide +kernel)
set_option maxRecDepth 20000 in
theorem gX9_squareBetween_X9_yOf : GoodIn wsX9_squareBetween (va_wsS RX9 149 yX9_yOf wsX9_yOf) := goodIn_app (goodIn_of _ (by decide +kernel)) ggX9_squareBetween_X9_yOf
theorem dX9_squareBetween_0 : decode cX9_squareBetween 0 = .ok (.iload_n 0, 1) := by decide +kernel
theorem dX9_squareBetween_1 : decode cX9_squareBetween 1 = .ok (.invokestatic 145, 3) := by decide +kernel
theorem dX9_squareBetween_4 : decode cX9_squareBetween 4 = .ok (.iload_n 1, 1) := by decide +kernel
theorem dX9_squareBetween_5 : decode cX9_squareBetween 5 = .ok (.invokestatic 145, 3) := by decide +kernel
theorem dX9_squareBetween_8 : decode cX9_squareBetween 8 = .ok (.isub, 1) := by decide +kernel
theorem dX9_squareBetween_9 : decode cX9_squareBetween 9 = .ok (.istore_n 2, 1) := by decide +kernel
theorem dX9_squareBetween_10 : decode cX9_squareBetween 10 = .ok (.iload_n 0, 1) := by decide +kernel
theorem dX9_squareBetween_11 : decode cX9_squareBetween 11 = .ok (.invokestatic 149, 3) := by decide +kernel
theorem dX9_squareBetween_14 : decode cX9_squareBetween 14 = .ok (.iload_n 1, 1) := by decide +kernel
theorem dX9_squareBetween_15 : decode cX9_squareBetween 15 = .ok (.invokestatic 149, 3) := by decide +kernel
theorem dX9_squareBetween_18 : decode cX9_squareBetween 18 = .ok (.isub, 1) := by decide +kernel
theorem dX9_squareBetween_19 : decode cX9_squareBetween 19 = .ok (.istore_n 3, 1) := by decide +kernel
theorem dX9_squareBetween_20 : decode cX9_squareBetween 20 = .ok (.iload_n 2, 1) := by decide +kernel
theorem dX9_squareBetween_21 : decode cX9_squareBetween 21 = .ok (.iload_n 2, 1) := by decide +kernel
theorem dX9_squareBetween_22 : decode cX9_squareBetween 22 = .ok (.imul, 1) := by decide +kernel
theorem dX9_squareBetween_23 : decode cX9_squareBetween 23 = .ok (.iload_n 3, 1) := by decide +kernel
theorem dX9_squareBetween_24 : decode cX9_squareBetween 24 = .ok (.iload_n 3, 1) := by decide +kernel
theorem dX9_squareBetween_25 : decode cX9_squareBetween 25 = .ok (.imul, 1) := by decide +kernel
theorem dX9_squareBetween_26 : decode cX9_squareBetween 26 = .ok (.iadd, 1) := by decide +kernel
theorem dX9_squareBetween_27 : decode cX9_squareBetween 27 = .ok (.ireturn, 1) := by decide +kernel
theorem dX10_init_0 : decode cX10_init 0 = .ok (.aload_n 0, 1) := by decide +kernel
theorem dX10_init_1 : decode cX10_init 1 = .ok (.invokespecial 1, 3) := by decide +kernel
theorem dX10_init_4 : decode cX10_init 4 = .ok (.aload_n 0, 1) := by decide +kernel
theorem dX10_init_5 : decode cX10_init 5 = .ok (.bipush 12, 2) := by decide +kernel
theorem dX10_init_7 : decode cX10_init 7 = .ok (.putfield 7, 3) := by decide +kernel
theorem dX10_init_10 : decode cX10_init 10 = .ok (.aload_n 0, 1) := by decide +kernel
theorem dX10_init_11 : decode cX10_init 11 = .ok (.bipush 12, 2) := by decide +kernel
theorem dX10_init_13 : decode cX10_init 13 = .ok (.putfield 13, 3) := by decide +kernel
theorem dX10_init_16 : decode cX10_init 16 = .ok (.aload_n 0, 1) := by decide +kernel
theorem dX10_init_17 : decode cX10_init 17 = .ok (.sipush 576, 3) := by decide +kernel
theorem dX10_init_20 : decode cX10_init 20 = .ok (.newarray .int, 2) := by decide +kernel
theorem dX10_init_22 : decode cX10_init 22 = .ok (.putfield 16, 3) := by decide +kernel
theorem dX10_init_25 : decode cX10_init 25 = .ok (.aload_n 0, 1) := by decide +kernel
theorem dX10_init_26 : decode cX10_init 26 = .ok (.bipush 8, 2) := by decide +kernel
theorem dX10_init_28 : decode cX10_init 28 = .ok (.newarray .int, 2) := by decide +kernel
theorem dX10_init_30 : decode cX10_init 30 = .ok (.putfield 20, 3) := by decide +kernel
theorem dX10_init_33 : decode cX10_init 33 = .ok (.aload_n 0, 1) := by decide +kernel
theorem dX10_init_34 : decode cX10_init 34 = .ok (.bipush 8, 2) := by decide +kernel
theorem dX10_init_36 : decode cX10_init 36 = .ok (.newarray .int, 2) := by decide +kernel
theorem dX10_init_38 : decode cX10_init 38 = .ok (.putfield 23, 3) := by decide +kernel
theorem dX10_init_41 : decode cX10_init 41 = .ok (.aload_n 0, 1) := by decide +kernel
theorem dX10_init_42 : decode cX10_init 42 = .ok (.bipush 24, 2) := by decide +kernel
theorem dX10_init_44 : decode cX10_init 44 = .ok (.newarray .int, 2) := by decide +kernel
theorem dX10_init_46 : decode cX10_init 46 = .ok (.putfield 26, 3) := by decide +kernel
theorem dX10_init_49 : decode cX10_init 49 = .ok (.aload_n 0, 1) := by decide +kernel
theorem dX10_init_50 : decode cX10_init 50 = .ok (.sipush 384, 3) := by decide +kernel
theorem dX10_init_53 : decode cX10_init 53 = .ok (.newarray .int, 2) := by decide +kernel
theorem dX10_init_55 : decode cX10_init 55 = .ok (.putfield 29, 3) := by decide +kernel
theorem dX10_init_58 : decode cX10_init 58 = .ok (.aload_n 0, 1) := by decide +kernel
theorem dX10_init_59 : decode cX10_init 59 = .ok (.sipush 384, 3) := by decide +kernel
theorem dX10_init_62 : decode cX10_init 62 = .ok (.newarray .int, 2) := by decide +kernel
theorem dX10_init_64 : decode cX10_init 64 = .ok (.putfield 32, 3) := by decide +kernel
theorem dX10_init_67 : decode cX10_init 67 = .ok (.aload_n 0, 1) := by decide +kernel
theorem dX10_init_68 : decode cX10_init 68 = .ok (.bipush 8, 2) := by decide +kernel
theorem dX10_init_70 : decode cX10_init 70 = .ok (.newarray .int, 2) := by decide +kernel
theorem dX10_init_72 : decode cX10_init 72 = .ok (.putfield 35, 3) := by decide +kernel
theorem dX10_init_75 : decode cX10_init 75 = .ok (.aload_n 0, 1) := by decide +kernel
theorem dX10_init_76 : decode cX10_init 76 = .ok (.bipush 8, 2) := by decide +kernel
theorem dX10_init_78 : decode cX10_init 78 = .ok (.newarray .int, 2) := by decide +kernel

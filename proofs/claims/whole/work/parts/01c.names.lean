set_option maxRecDepth 20000 in
theorem ggX6_tryFrom_X6_tryFrom : GoodIn wsX6_tryFrom wsX6_tryFrom := goodIn_r _ [0, 1, 2, 3, 4, 5, 6, 7, 8, 9, 10, 11, 12, 13, 14, 15, 16, 17, 18, 19, 20, 21, 22, 23, 24, 25, 26, 27, 28, 29, 30, 31, 32, 33, 34, 35, 36, 37, 38, 39, 40, 41, 42, 43, 44, 45, 46, 47, 48, 49, 50, 51, 52, 53, 54, 55, 56, 57, 58, 59, 60, 61, 62, 63, 64, 65, 66, 67, 68, 69, 70, 71, 72, 73, 74, 75, 76, 77, 78, 79, 80, 81, 82, 83, 84, 85, 86, 87, 88, 89, 90, 91, 92, 93, 94, 95, 96, 97, 98, 99, 100, 101, 102, 103, 104, 105, 106, 107, 108, 109, 110, 111, 112, 113, 114, 115, 116, 117, 118, 119, 120, 121, 122, 123, 124, 125, 126, 127, 128, 129, 130, 131, 132, 133, 134] (by decide +kernel) (by decide +kernel)
set_option maxRecDepth 20000 in
theorem gX6_tryFrom_X6_tryFrom : GoodIn wsX6_tryFrom (wsV RX6 57 RX6 yX6_tryFrom wsX6_tryFrom) := goodIn_app (goodIn_of _ (by decide +kernel)) ggX6_tryFrom_X6_tryFrom
theorem dX6_tryFrom_0 : decode cX6_tryFrom 0 = .ok (.iload_n 1, 1) := by decide +kernel
theorem dX6_tryFrom_1 : decode cX6_tryFrom 1 = .ok (.aload_n 0, 1) := by decide +kernel
theorem dX6_tryFrom_2 : decode cX6_tryFrom 2 = .ok (.getfield 37, 3) := by decide +kernel
theorem dX6_tryFrom_5 : decode cX6_tryFrom 5 = .ok (.if_icmp .ge 21, 3) := by decide +kernel
theorem dX6_tryFrom_8 : decode cX6_tryFrom 8 = .ok (.iload_n 1, 1) := by decide +kernel
theorem dX6_tryFrom_9 : decode cX6_tryFrom 9 = .ok (.bipush 6, 2) := by decide +kernel
theorem dX6_tryFrom_11 : decode cX6_tryFrom 11 = .ok (.if_icmp .ge 15, 3) := by decide +kernel
theorem dX6_tryFrom_14 : decode cX6_tryFrom 14 = .ok (.aload_n 0, 1) := by decide +kernel
theorem dX6_tryFrom_15 : decode cX6_tryFrom 15 = .ok (.getfield 11, 3) := by decide +kernel
theorem dX6_tryFrom_18 : decode cX6_tryFrom 18 = .ok (.iload_n 1, 1) := by decide +kernel
theorem dX6_tryFrom_19 : decode cX6_tryFrom 19 = .ok (.aaload, 1) := by decide +kernel
theorem dX6_tryFrom_20 : decode cX6_tryFrom 20 = .ok (.getfield 61, 3) := by decide +kernel
theorem dX6_tryFrom_23 : decode cX6_tryFrom 23 = .ok (.ifCond .eq 9, 3) := by decide +kernel
theorem dX6_tryFrom_26 : decode cX6_tryFrom 26 = .ok (.aload_n 0, 1) := by decide +kernel
theorem dX6_tryFrom_27 : decode cX6_tryFrom 27 = .ok (.iload_n 1, 1) := by decide +kernel
theorem dX6_tryFrom_28 : decode cX6_tryFrom 28 = .ok (.invokevirtual 64, 3) := by decide +kernel
theorem dX6_tryFrom_31 : decode cX6_tryFrom 31 = .ok (.return_, 1) := by decide +kernel
theorem dX6_tryFrom_32 : decode cX6_tryFrom 32 = .ok (.aload_n 0, 1) := by decide +kernel
theorem dX6_tryFrom_33 : decode cX6_tryFrom 33 = .ok (.getfield 11, 3) := by decide +kernel
theorem dX6_tryFrom_36 : decode cX6_tryFrom 36 = .ok (.iload_n 1, 1) := by decide +kernel
theorem dX6_tryFrom_37 : decode cX6_tryFrom 37 = .ok (.iconst 1, 1) := by decide +kernel
theorem dX6_tryFrom_38 : decode cX6_tryFrom 38 = .ok (.iadd, 1) := by decide +kernel
theorem dX6_tryFrom_39 : decode cX6_tryFrom 39 = .ok (.aaload, 1) := by decide +kernel
theorem dX6_tryFrom_40 : decode cX6_tryFrom 40 = .ok (.astore_n 2, 1) := by decide +kernel
theorem dX6_tryFrom_41 : decode cX6_tryFrom 41 = .ok (.iconst 0, 1) := by decide +kernel
theorem dX6_tryFrom_42 : decode cX6_tryFrom 42 = .ok (.istore_n 3, 1) := by decide +kernel
theorem dX6_tryFrom_43 : decode cX6_tryFrom 43 = .ok (.iload_n 3, 1) := by decide +kernel
theorem dX6_tryFrom_44 : decode cX6_tryFrom 44 = .ok (.iconst 3, 1) := by decide +kernel
theorem dX6_tryFrom_45 : decode cX6_tryFrom 45 = .ok (.if_icmp .ge 65, 3) := by decide +kernel
theorem dX6_tryFrom_48 : decode cX6_tryFrom 48 = .ok (.aload_n 2, 1) := by decide +kernel
theorem dX6_tryFrom_49 : decode cX6_tryFrom 49 = .ok (.aload_n 0, 1) := by decide +kernel
theorem dX6_tryFrom_50 : decode cX6_tryFrom 50 = .ok (.getfield 11, 3) := by decide +kernel
theorem dX6_tryFrom_53 : decode cX6_tryFrom 53 = .ok (.iload_n 1, 1) := by decide +kernel
theorem dX6_tryFrom_54 : decode cX6_tryFrom 54 = .ok (.aaload, 1) := by decide +kernel
theorem dX6_tryFrom_55 : decode cX6_tryFrom 55 = .ok (.invokevirtual 53, 3) := by decide +kernel
theorem dX6_tryFrom_58 : decode cX6_tryFrom 58 = .ok (.aload_n 2, 1) := by decide +kernel
theorem dX6_tryFrom_59 : decode cX6_tryFrom 59 = .ok (.iload_n 3, 1) := by decide +kernel
theorem dX6_tryFrom_60 : decode cX6_tryFrom 60 = .ok (.aload_n 0, 1) := by decide +kernel
theorem dX6_tryFrom_61 : decode cX6_tryFrom 61 = .ok (.getfield 40, 3) := by decide +kernel
theorem dX6_tryFrom_64 : decode cX6_tryFrom 64 = .ok (.aload_n 0, 1) := by decide +kernel
theorem dX6_tryFrom_65 : decode cX6_tryFrom 65 = .ok (.getfield 32, 3) := by decide +kernel
theorem dX6_tryFrom_68 : decode cX6_tryFrom 68 = .ok (.aload_n 0, 1) := by decide +kernel
theorem dX6_tryFrom_69 : decode cX6_tryFrom 69 = .ok (.getfield 32, 3) := by decide +kernel
theorem dX6_tryFrom_72 : decode cX6_tryFrom 72 = .ok (.getfield 67, 3) := by decide +kernel
theorem dX6_tryFrom_75 : decode cX6_tryFrom 75 = .ok (.aload_n 0, 1) := by decide +kernel
theorem dX6_tryFrom_76 : decode cX6_tryFrom 76 = .ok (.getfield 28, 3) := by decide +kernel
theorem dX6_tryFrom_79 : decode cX6_tryFrom 79 = .ok (.invokevirtual 73, 3) := by decide +kernel
theorem dX6_tryFrom_82 : decode cX6_tryFrom 82 = .ok (.aload_n 0, 1) := by decide +kernel
theorem dX6_tryFrom_83 : decode cX6_tryFrom 83 = .ok (.aload_n 2, 1) := by decide +kernel
theorem dX6_tryFrom_84 : decode cX6_tryFrom 84 = .ok (.invokevirtual 77, 3) := by decide +kernel
theorem dX6_tryFrom_87 : decode cX6_tryFrom 87 = .ok (.ifCond .eq 17, 3) := by decide +kernel
theorem dX6_tryFrom_90 : decode cX6_tryFrom 90 = .ok (.aload_n 0, 1) := by decide +kernel
theorem dX6_tryFrom_91 : decode cX6_tryFrom 91 = .ok (.getfield 17, 3) := by decide +kernel
theorem dX6_tryFrom_94 : decode cX6_tryFrom 94 = .ok (.iload_n 1, 1) := by decide +kernel
theorem dX6_tryFrom_95 : decode cX6_tryFrom 95 = .ok (.iload_n 3, 1) := by decide +kernel
theorem dX6_tryFrom_96 : decode cX6_tryFrom 96 = .ok (.iastore, 1) := by decide +kernel
theorem dX6_tryFrom_97 : decode cX6_tryFrom 97 = .ok (.aload_n 0, 1) := by decide +kernel
theorem dX6_tryFrom_98 : decode cX6_tryFrom 98 = .ok (.iload_n 1, 1) := by decide +kernel
theorem dX6_tryFrom_99 : decode cX6_tryFrom 99 = .ok (.iconst 1, 1) := by decide +kernel
theorem dX6_tryFrom_100 : decode cX6_tryFrom 100 = .ok (.iadd, 1) := by decide +kernel
theorem dX6_tryFrom_101 : decode cX6_tryFrom 101 = .ok (.invokevirtual 57, 3) := by decide +kernel
theorem dX6_tryFrom_104 : decode cX6_tryFrom 104 = .ok (.iinc 3 1, 3) := by decide +kernel
theorem dX6_tryFrom_107 : decode cX6_tryFrom 107 = .ok (.goto (-64), 3) := by decide +kernel
theorem dX6_tryFrom_110 : decode cX6_tryFrom 110 = .ok (.return_, 1) := by decide +kernel
theorem dX6_mayBe_0 : decode cX6_mayBe 0 = .ok (.aload_n 0, 1) := by decide +kernel
theorem dX6_mayBe_1 : decode cX6_mayBe 1 = .ok (.getfield 28, 3) := by decide +kernel
theorem dX6_mayBe_4 : decode cX6_mayBe 4 = .ok (.getfield 81, 3) := by decide +kernel
theorem dX6_mayBe_7 : decode cX6_mayBe 7 = .ok (.aload_n 1, 1) := by decide +kernel
theorem dX6_mayBe_8 : decode cX6_mayBe 8 = .ok (.getfield 86, 3) := by decide +kernel
theorem dX6_mayBe_11 : decode cX6_mayBe 11 = .ok (.iaload, 1) := by decide +kernel
theorem dX6_mayBe_12 : decode cX6_mayBe 12 = .ok (.istore_n 2, 1) := by decide +kernel
theorem dX6_mayBe_13 : decode cX6_mayBe 13 = .ok (.iload_n 2, 1) := by decide +kernel
theorem dX6_mayBe_14 : decode cX6_mayBe 14 = .ok (.iconst 2, 1) := by decide +kernel
theorem dX6_mayBe_15 : decode cX6_mayBe 15 = .ok (.if_icmp .eq 19, 3) := by decide +kernel
theorem dX6_mayBe_18 : decode cX6_mayBe 18 = .ok (.aload_n 1, 1) := by decide +kernel
theorem dX6_mayBe_19 : decode cX6_mayBe 19 = .ok (.getfield 61, 3) := by decide +kernel
theorem dX6_mayBe_22 : decode cX6_mayBe 22 = .ok (.ifCond .eq 8, 3) := by decide +kernel
theorem dX6_mayBe_25 : decode cX6_mayBe 25 = .ok (.iload_n 2, 1) := by decide +kernel
theorem dX6_mayBe_26 : decode cX6_mayBe 26 = .ok (.iconst 1, 1) := by decide +kernel
theorem dX6_mayBe_27 : decode cX6_mayBe 27 = .ok (.if_icmp .eq 7, 3) := by decide +kernel
theorem dX6_mayBe_30 : decode cX6_mayBe 30 = .ok (.iconst 1, 1) := by decide +kernel
theorem dX6_mayBe_31 : decode cX6_mayBe 31 = .ok (.goto 4, 3) := by decide +kernel
theorem dX6_mayBe_34 : decode cX6_mayBe 34 = .ok (.iconst 0, 1) := by decide +kernel
theorem dX6_mayBe_35 : decode cX6_mayBe 35 = .ok (.ireturn, 1) := by decide +kernel
set_option maxRecDepth 20000 in
theorem ggX6_weigh_X9_squareBetween : GoodIn wsX6_weigh wsX9_squareBetween := goodIn_r _ [12, 13, 14, 11, 15, 16, 17, 18] (by decide +kernel) (by decide +kernel)
set_option maxRecDepth 20000 in
theorem gX6_weigh_X9_squareBetween_n89 : GoodIn wsX6_weigh (wsX9_squareBetween) := ggX6_weigh_X9_squareBetween
theorem dX6_weigh_0 : decode cX6_weigh 0 = .ok (.aload_n 0, 1) := by decide +kernel
theorem dX6_weigh_1 : decode cX6_weigh 1 = .ok (.getfield 11, 3) := by decide +kernel
theorem dX6_weigh_4 : decode cX6_weigh 4 = .ok (.iload_n 1, 1) := by decide +kernel
theorem dX6_weigh_5 : decode cX6_weigh 5 = .ok (.aaload, 1) := by decide +kernel
theorem dX6_weigh_6 : decode cX6_weigh 6 = .ok (.getfield 86, 3) := by decide +kernel
theorem dX6_weigh_9 : decode cX6_weigh 9 = .ok (.aload_n 0, 1) := by decide +kernel
theorem dX6_weigh_10 : decode cX6_weigh 10 = .ok (.getfield 43, 3) := by decide +kernel
theorem dX6_weigh_13 : decode cX6_weigh 13 = .ok (.invokestatic 89, 3) := by decide +kernel
theorem dX6_weigh_16 : decode cX6_weigh 16 = .ok (.istore_n 2, 1) := by decide +kernel
theorem dX6_weigh_17 : decode cX6_weigh 17 = .ok (.aload_n 0, 1) := by decide +kernel
theorem dX6_weigh_18 : decode cX6_weigh 18 = .ok (.getfield 46, 3) := by decide +kernel
theorem dX6_weigh_21 : decode cX6_weigh 21 = .ok (.ifCond .eq 19, 3) := by decide +kernel
theorem dX6_weigh_24 : decode cX6_weigh 24 = .ok (.iload_n 2, 1) := by decide +kernel
theorem dX6_weigh_25 : decode cX6_weigh 25 = .ok (.aload_n 0, 1) := by decide +kernel
theorem dX6_weigh_26 : decode cX6_weigh 26 = .ok (.getfield 50, 3) := by decide +kernel
theorem dX6_weigh_29 : decode cX6_weigh 29 = .ok (.if_icmp .ge 7, 3) := by decide +kernel
theorem dX6_weigh_32 : decode cX6_weigh 32 = .ok (.iconst 1, 1) := by decide +kernel
theorem dX6_weigh_33 : decode cX6_weigh 33 = .ok (.goto 20, 3) := by decide +kernel
theorem dX6_weigh_36 : decode cX6_weigh 36 = .ok (.iconst 0, 1) := by decide +kernel
theorem dX6_weigh_37 : decode cX6_weigh 37 = .ok (.goto 16, 3) := by decide +kernel
theorem dX6_weigh_40 : decode cX6_weigh 40 = .ok (.iload_n 2, 1) := by decide +kernel
theorem dX6_weigh_41 : decode cX6_weigh 41 = .ok (.aload_n 0, 1) := by decide +kernel
theorem dX6_weigh_42 : decode cX6_weigh 42 = .ok (.getfield 50, 3) := by decide +kernel
theorem dX6_weigh_45 : decode cX6_weigh 45 = .ok (.if_icmp .le 7, 3) := by decide +kernel
theorem dX6_weigh_48 : decode cX6_weigh 48 = .ok (.iconst 1, 1) := by decide +kernel
theorem dX6_weigh_49 : decode cX6_weigh 49 = .ok (.goto 4, 3) := by decide +kernel
theorem dX6_weigh_52 : decode cX6_weigh 52 = .ok (.iconst 0, 1) := by decide +kernel
theorem dX6_weigh_53 : decode cX6_weigh 53 = .ok (.istore_n 3, 1) := by decide +kernel
theorem dX6_weigh_54 : decode cX6_weigh 54 = .ok (.aload_n 0, 1) := by decide +kernel
theorem dX6_weigh_55 : decode cX6_weigh 55 = .ok (.getfield 50, 3) := by decide +kernel
theorem dX6_weigh_58 : decode cX6_weigh 58 = .ok (.iconst (-1), 1) := by decide +kernel
theorem dX6_weigh_59 : decode cX6_weigh 59 = .ok (.if_icmp .eq 8, 3) := by decide +kernel
theorem dX6_weigh_62 : decode cX6_weigh 62 = .ok (.iload_n 3, 1) := by decide +kernel
theorem dX6_weigh_63 : decode cX6_weigh 63 = .ok (.ifCond .ne 4, 3) := by decide +kernel
theorem dX6_weigh_66 : decode cX6_weigh 66 = .ok (.return_, 1) := by decide +kernel
theorem dX6_weigh_67 : decode cX6_weigh 67 = .ok (.aload_n 0, 1) := by decide +kernel
theorem dX6_weigh_68 : decode cX6_weigh 68 = .ok (.iload_n 2, 1) := by decide +kernel
theorem dX6_weigh_69 : decode cX6_weigh 69 = .ok (.putfield 50, 3) := by decide +kernel
theorem dX6_weigh_72 : decode cX6_weigh 72 = .ok (.aload_n 0, 1) := by decide +kernel
theorem dX6_weigh_73 : decode cX6_weigh 73 = .ok (.aload_n 0, 1) := by decide +kernel
theorem dX6_weigh_74 : decode cX6_weigh 74 = .ok (.getfield 37, 3) := by decide +kernel
theorem dX6_weigh_77 : decode cX6_weigh 77 = .ok (.putfield 24, 3) := by decide +kernel
theorem dX6_weigh_80 : decode cX6_weigh 80 = .ok (.iconst 0, 1) := by decide +kernel
theorem dX6_weigh_81 : decode cX6_weigh 81 = .ok (.istore 4, 2) := by decide +kernel
theorem dX6_weigh_83 : decode cX6_weigh 83 = .ok (.iload 4, 2) := by decide +kernel
theorem dX6_weigh_85 : decode cX6_weigh 85 = .ok (.aload_n 0, 1) := by decide +kernel
theorem dX6_weigh_86 : decode cX6_weigh 86 = .ok (.getfield 37, 3) := by decide +kernel
theorem dX6_weigh_89 : decode cX6_weigh 89 = .ok (.if_icmp .ge 33, 3) := by decide +kernel
theorem dX6_weigh_92 : decode cX6_weigh 92 = .ok (.aload_n 0, 1) := by decide +kernel
theorem dX6_weigh_93 : decode cX6_weigh 93 = .ok (.getfield 21, 3) := by decide +kernel
theorem dX6_weigh_96 : decode cX6_weigh 96 = .ok (.iload 4, 2) := by decide +kernel
theorem dX6_weigh_98 : decode cX6_weigh 98 = .ok (.iload 4, 2) := by decide +kernel
theorem dX6_weigh_100 : decode cX6_weigh 100 = .ok (.iload_n 1, 1) := by decide +kernel
theorem dX6_weigh_101 : decode cX6_weigh 101 = .ok (.if_icmp .ge 13, 3) := by decide +kernel
theorem dX6_weigh_104 : decode cX6_weigh 104 = .ok (.aload_n 0, 1) := by decide +kernel
theorem dX6_weigh_105 : decode cX6_weigh 105 = .ok (.getfield 17, 3) := by decide +kernel
theorem dX6_weigh_108 : decode cX6_weigh 108 = .ok (.iload 4, 2) := by decide +kernel
theorem dX6_weigh_110 : decode cX6_weigh 110 = .ok (.iaload, 1) := by decide +kernel
theorem dX6_weigh_111 : decode cX6_weigh 111 = .ok (.goto 4, 3) := by decide +kernel
theorem dX6_weigh_114 : decode cX6_weigh 114 = .ok (.iconst 0, 1) := by decide +kernel
theorem dX6_weigh_115 : decode cX6_weigh 115 = .ok (.iastore, 1) := by decide +kernel
theorem dX6_weigh_116 : decode cX6_weigh 116 = .ok (.iinc 4 1, 3) := by decide +kernel
theorem dX6_weigh_119 : decode cX6_weigh 119 = .ok (.goto (-36), 3) := by decide +kernel
theorem dX6_weigh_122 : decode cX6_weigh 122 = .ok (.return_, 1) := by decide +kernel
set_option maxRecDepth 20000 in
theorem ggX7_init_X4_init : GoodIn wsX7_init wsX4_init := goodIn_r _ [12, 13, 2, 3, 14, 15, 16, 17, 18, 19, 20, 21, 22] (by decide +kernel) (by decide +kernel)
set_option maxRecDepth 20000 in
theorem gX7_init_X4_init_n11 : GoodIn wsX7_init (wsX4_init) := ggX7_init_X4_init
theorem dX7_init_0 : decode cX7_init 0 = .ok (.aload_n 0, 1) := by decide +kernel
theorem dX7_init_1 : decode cX7_init 1 = .ok (.invokespecial 3, 3) := by decide +kernel
theorem dX7_init_4 : decode cX7_init 4 = .ok (.aload_n 0, 1) := by decide +kernel
theorem dX7_init_5 : decode cX7_init 5 = .ok (.new 9, 3) := by decide +kernel
theorem dX7_init_8 : decode cX7_init 8 = .ok (.dup, 1) := by decide +kernel
theorem dX7_init_9 : decode cX7_init 9 = .ok (.invokespecial 11, 3) := by decide +kernel
theorem dX7_init_12 : decode cX7_init 12 = .ok (.putfield 12, 3) := by decide +kernel
theorem dX7_init_15 : decode cX7_init 15 = .ok (.aload_n 0, 1) := by decide +kernel
theorem dX7_init_16 : decode cX7_init 16 = .ok (.new 9, 3) := by decide +kernel
theorem dX7_init_19 : decode cX7_init 19 = .ok (.dup, 1) := by decide +kernel
theorem dX7_init_20 : decode cX7_init 20 = .ok (.invokespecial 11, 3) := by decide +kernel
theorem dX7_init_23 : decode cX7_init 23 = .ok (.putfield 18, 3) := by decide +kernel
theorem dX7_init_26 : decode cX7_init 26 = .ok (.aload_n 0, 1) := by decide +kernel
theorem dX7_init_27 : decode cX7_init 27 = .ok (.aload_n 1, 1) := by decide +kernel
theorem dX7_init_28 : decode cX7_init 28 = .ok (.putfield 21, 3) := by decide +kernel
theorem dX7_init_31 : decode cX7_init 31 = .ok (.aload_n 0, 1) := by decide +kernel
theorem dX7_init_32 : decode cX7_init 32 = .ok (.aload_n 2, 1) := by decide +kernel
theorem dX7_init_33 : decode cX7_init 33 = .ok (.putfield 25, 3) := by decide +kernel
theorem dX7_init_36 : decode cX7_init 36 = .ok (.return_, 1) := by decide +kernel
set_option maxRecDepth 20000 in
theorem ggX7_follow_X4_clear : GoodIn wsX7_follow wsX4_clear := goodIn_r _ [11, 12, 13, 14, 15, 95, 96, 97, 98] (by decide +kernel) (by decide +kernel)
set_option maxRecDepth 20000 in
theorem gX7_follow_X4_clear : GoodIn wsX7_follow (wsV RX7 29 RX4 yX4_clear wsX4_clear) := goodIn_app (goodIn_of _ (by decide +kernel)) ggX7_follow_X4_clear
set_option maxRecDepth 20000 in
theorem ggX7_follow_X7_enter : GoodIn wsX7_follow wsX7_enter := goodIn_r _ [20, 21, 22, 23, 24, 25, 26, 27, 28, 10, 29, 13, 15, 12, 14, 30, 31, 32, 33, 34, 82, 83, 84, 85, 86, 87, 99, 100, 101, 95, 96, 97, 98] (by decide +kernel) (by decide +kernel)
set_option maxRecDepth 20000 in
theorem gX7_follow_X7_enter : GoodIn wsX7_follow (wsV RX7 38 RX7 yX7_enter wsX7_enter) := goodIn_app (goodIn_of _ (by decide +kernel)) ggX7_follow_X7_enter
set_option maxRecDepth 20000 in
theorem ggX7_follow_X7_spread : GoodIn wsX7_follow wsX7_spread := goodIn_r _ [38, 39, 40, 32, 33, 34, 41, 21, 42, 2, 4, 1, 43, 44, 45, 24, 46, 23, 25, 47, 48, 49, 50, 51, 52, 53, 54, 55, 56, 57, 58, 59, 60, 61, 62, 63, 64, 65, 66, 67, 68, 69, 70, 71, 72, 73, 74, 16, 17, 18, 19, 20, 22, 26, 27, 28, 10, 29, 13, 15, 12, 14, 30, 31, 88, 89, 90, 91, 92, 93, 94, 82, 83, 84, 85, 86, 87, 95, 96, 97, 98, 102, 103, 99, 100, 101] (by decide +kernel) (by decide +kernel)
set_option maxRecDepth 20000 in
theorem gX7_follow_X7_spread : GoodIn wsX7_follow (wsV RX7 50 RX7 yX7_spread wsX7_spread) := goodIn_app (goodIn_of _ (by decide +kernel)) ggX7_follow_X7_spread
set_option maxRecDepth 20000 in
theorem ggX7_follow_X7_sumUp : GoodIn wsX7_follow wsX7_sumUp := goodIn_r _ [78, 79, 80, 1, 5, 81, 43, 6, 40, 32, 33, 34, 44, 82, 83, 84, 85, 86, 87, 95, 96, 97, 98] (by decide +kernel) (by decide +kernel)
set_option maxRecDepth 20000 in
theorem gX7_follow_X7_sumUp : GoodIn wsX7_follow (wsV RX7 54 RX7 yX7_sumUp wsX7_sumUp) := goodIn_app (goodIn_of _ (by decide +kernel)) ggX7_follow_X7_sumUp
theorem dX7_follow_0 : decode cX7_follow 0 = .ok (.aload_n 0, 1) := by decide +kernel
theorem dX7_follow_1 : decode cX7_follow 1 = .ok (.getfield 12, 3) := by decide +kernel
theorem dX7_follow_4 : decode cX7_follow 4 = .ok (.invokevirtual 29, 3) := by decide +kernel
theorem dX7_follow_7 : decode cX7_follow 7 = .ok (.aload_n 0, 1) := by decide +kernel
theorem dX7_follow_8 : decode cX7_follow 8 = .ok (.aload_n 0, 1) := by decide +kernel
theorem dX7_follow_9 : decode cX7_follow 9 = .ok (.getfield 12, 3) := by decide +kernel
theorem dX7_follow_12 : decode cX7_follow 12 = .ok (.aload_n 1, 1) := by decide +kernel
theorem dX7_follow_13 : decode cX7_follow 13 = .ok (.getfield 32, 3) := by decide +kernel
theorem dX7_follow_16 : decode cX7_follow 16 = .ok (.iconst 0, 1) := by decide +kernel
theorem dX7_follow_17 : decode cX7_follow 17 = .ok (.iaload, 1) := by decide +kernel
theorem dX7_follow_18 : decode cX7_follow 18 = .ok (.iconst 1, 1) := by decide +kernel
theorem dX7_follow_19 : decode cX7_follow 19 = .ok (.iconst 0, 1) := by decide +kernel
theorem dX7_follow_20 : decode cX7_follow 20 = .ok (.invokevirtual 38, 3) := by decide +kernel
theorem dX7_follow_23 : decode cX7_follow 23 = .ok (.iconst 1, 1) := by decide +kernel
theorem dX7_follow_24 : decode cX7_follow 24 = .ok (.istore_n 2, 1) := by decide +kernel
theorem dX7_follow_25 : decode cX7_follow 25 = .ok (.iload_n 2, 1) := by decide +kernel
theorem dX7_follow_26 : decode cX7_follow 26 = .ok (.aload_n 1, 1) := by decide +kernel
theorem dX7_follow_27 : decode cX7_follow 27 = .ok (.getfield 42, 3) := by decide +kernel
theorem dX7_follow_30 : decode cX7_follow 30 = .ok (.if_icmp .ge 68, 3) := by decide +kernel
theorem dX7_follow_33 : decode cX7_follow 33 = .ok (.aload_n 0, 1) := by decide +kernel
theorem dX7_follow_34 : decode cX7_follow 34 = .ok (.getfield 18, 3) := by decide +kernel
theorem dX7_follow_37 : decode cX7_follow 37 = .ok (.invokevirtual 29, 3) := by decide +kernel
theorem dX7_follow_40 : decode cX7_follow 40 = .ok (.iconst 0, 1) := by decide +kernel
theorem dX7_follow_41 : decode cX7_follow 41 = .ok (.istore_n 3, 1) := by decide +kernel
theorem dX7_follow_42 : decode cX7_follow 42 = .ok (.iload_n 3, 1) := by decide +kernel
theorem dX7_follow_43 : decode cX7_follow 43 = .ok (.aload_n 0, 1) := by decide +kernel
theorem dX7_follow_44 : decode cX7_follow 44 = .ok (.getfield 12, 3) := by decide +kernel
theorem dX7_follow_47 : decode cX7_follow 47 = .ok (.getfield 46, 3) := by decide +kernel
theorem dX7_follow_50 : decode cX7_follow 50 = .ok (.if_icmp .ge 24, 3) := by decide +kernel
theorem dX7_follow_53 : decode cX7_follow 53 = .ok (.aload_n 0, 1) := by decide +kernel
theorem dX7_follow_54 : decode cX7_follow 54 = .ok (.aload_n 0, 1) := by decide +kernel
theorem dX7_follow_55 : decode cX7_follow 55 = .ok (.getfield 12, 3) := by decide +kernel
theorem dX7_follow_58 : decode cX7_follow 58 = .ok (.getfield 49, 3) := by decide +kernel
theorem dX7_follow_61 : decode cX7_follow 61 = .ok (.iload_n 3, 1) := by decide +kernel
theorem dX7_follow_62 : decode cX7_follow 62 = .ok (.iaload, 1) := by decide +kernel
theorem dX7_follow_63 : decode cX7_follow 63 = .ok (.aload_n 1, 1) := by decide +kernel
theorem dX7_follow_64 : decode cX7_follow 64 = .ok (.iload_n 2, 1) := by decide +kernel
theorem dX7_follow_65 : decode cX7_follow 65 = .ok (.invokevirtual 50, 3) := by decide +kernel
theorem dX7_follow_68 : decode cX7_follow 68 = .ok (.iinc 3 1, 3) := by decide +kernel
theorem dX7_follow_71 : decode cX7_follow 71 = .ok (.goto (-29), 3) := by decide +kernel
theorem dX7_follow_74 : decode cX7_follow 74 = .ok (.aload_n 0, 1) := by decide +kernel
theorem dX7_follow_75 : decode cX7_follow 75 = .ok (.getfield 12, 3) := by decide +kernel
theorem dX7_follow_78 : decode cX7_follow 78 = .ok (.astore_n 3, 1) := by decide +kernel
theorem dX7_follow_79 : decode cX7_follow 79 = .ok (.aload_n 0, 1) := by decide +kernel
theorem dX7_follow_80 : decode cX7_follow 80 = .ok (.aload_n 0, 1) := by decide +kernel
theorem dX7_follow_81 : decode cX7_follow 81 = .ok (.getfield 18, 3) := by decide +kernel
theorem dX7_follow_84 : decode cX7_follow 84 = .ok (.putfield 12, 3) := by decide +kernel
theorem dX7_follow_87 : decode cX7_follow 87 = .ok (.aload_n 0, 1) := by decide +kernel
theorem dX7_follow_88 : decode cX7_follow 88 = .ok (.aload_n 3, 1) := by decide +kernel
theorem dX7_follow_89 : decode cX7_follow 89 = .ok (.putfield 18, 3) := by decide +kernel
theorem dX7_follow_92 : decode cX7_follow 92 = .ok (.iinc 2 1, 3) := by decide +kernel
theorem dX7_follow_95 : decode cX7_follow 95 = .ok (.goto (-70), 3) := by decide +kernel
theorem dX7_follow_98 : decode cX7_follow 98 = .ok (.aload_n 0, 1) := by decide +kernel
theorem dX7_follow_99 : decode cX7_follow 99 = .ok (.invokevirtual 54, 3) := by decide +kernel
theorem dX7_follow_102 : decode cX7_follow 102 = .ok (.return_, 1) := by decide +kernel
set_option maxRecDepth 20000 in
theorem ggX7_spread_X9_levelOfPlace : GoodIn wsX7_spread wsX9_levelOfPlace := goodIn_r _ [16] (by decide +kernel) (by decide +kernel)
set_option maxRecDepth 20000 in
theorem gX7_spread_X9_levelOfPlace_n57 : GoodIn wsX7_spread (wsX9_levelOfPlace) := ggX7_spread_X9_levelOfPlace
set_option maxRecDepth 20000 in
theorem ggX7_spread_X9_cellOfPlace : GoodIn wsX7_spread wsX9_cellOfPlace := goodIn_r _ [18] (by decide +kernel) (by decide +kernel)
set_option maxRecDepth 20000 in
theorem gX7_spread_X9_cellOfPlace_n61 : GoodIn wsX7_spread (wsX9_cellOfPlace) := ggX7_spread_X9_cellOfPlace
set_option maxRecDepth 20000 in
theorem ggX7_spread_X8_leadFrom : GoodIn wsX7_spread wsX8_leadFrom := goodIn_r _ [23, 24, 25, 26, 27, 28, 29, 30, 31, 15, 32, 33, 34, 35, 36, 37, 38, 39, 40, 41, 42, 43, 44, 81, 82, 83, 84, 85] (by decide +kernel) (by decide +kernel)
set_option maxRecDepth 20000 in
theorem gX7_spread_X8_leadFrom : GoodIn wsX7_spread (wsV RX7 73 RX8 yX8_leadFrom wsX8_leadFrom) := goodIn_app (goodIn_of _ (by decide +kernel)) ggX7_spread_X8_leadFrom
set_option maxRecDepth 20000 in
theorem ggX7_spread_X9_placeOf : GoodIn wsX7_spread wsX9_placeOf := goodIn_r _ [46] (by decide +kernel) (by decide +kernel)
set_option maxRecDepth 20000 in
theorem gX7_spread_X9_placeOf_n79 : GoodIn wsX7_spread (wsX9_placeOf) := ggX7_spread_X9_placeOf
set_option maxRecDepth 20000 in
theorem ggX7_spread_X7_enter : GoodIn wsX7_spread wsX7_enter := goodIn_r _ [51, 7, 52, 17, 15, 18, 53, 54, 55, 56, 57, 58, 59, 60, 61, 62, 63, 3, 4, 5, 71, 72, 73, 74, 75, 76, 83, 84, 85, 77, 78, 79, 80] (by decide +kernel) (by decide +kernel)
set_option maxRecDepth 20000 in
theorem gX7_spread_X7_enter : GoodIn wsX7_spread (wsV RX7 38 RX7 yX7_enter wsX7_enter) := goodIn_app (goodIn_of _ (by decide +kernel)) ggX7_spread_X7_enter
theorem dX7_spread_0 : decode cX7_spread 0 = .ok (.iload_n 1, 1) := by decide +kernel
theorem dX7_spread_1 : decode cX7_spread 1 = .ok (.invokestatic 57, 3) := by decide +kernel
theorem dX7_spread_4 : decode cX7_spread 4 = .ok (.istore 4, 2) := by decide +kernel
theorem dX7_spread_6 : decode cX7_spread 6 = .ok (.iload 4, 2) := by decide +kernel
theorem dX7_spread_8 : decode cX7_spread 8 = .ok (.ifCond .ne 4, 3) := by decide +kernel
theorem dX7_spread_11 : decode cX7_spread 11 = .ok (.return_, 1) := by decide +kernel
theorem dX7_spread_12 : decode cX7_spread 12 = .ok (.iload_n 1, 1) := by decide +kernel
theorem dX7_spread_13 : decode cX7_spread 13 = .ok (.invokestatic 61, 3) := by decide +kernel
theorem dX7_spread_16 : decode cX7_spread 16 = .ok (.istore 5, 2) := by decide +kernel
theorem dX7_spread_18 : decode cX7_spread 18 = .ok (.aload_n 2, 1) := by decide +kernel
theorem dX7_spread_19 : decode cX7_spread 19 = .ok (.getfield 64, 3) := by decide +kernel
theorem dX7_spread_22 : decode cX7_spread 22 = .ok (.iload_n 3, 1) := by decide +kernel
theorem dX7_spread_23 : decode cX7_spread 23 = .ok (.iadd, 1) := by decide +kernel
theorem dX7_spread_24 : decode cX7_spread 24 = .ok (.iconst 1, 1) := by decide +kernel
theorem dX7_spread_25 : decode cX7_spread 25 = .ok (.isub, 1) := by decide +kernel
theorem dX7_spread_26 : decode cX7_spread 26 = .ok (.bipush 24, 2) := by decide +kernel
theorem dX7_spread_28 : decode cX7_spread 28 = .ok (.irem, 1) := by decide +kernel
theorem dX7_spread_29 : decode cX7_spread 29 = .ok (.istore 6, 2) := by decide +kernel
theorem dX7_spread_31 : decode cX7_spread 31 = .ok (.iload 4, 2) := by decide +kernel
theorem dX7_spread_33 : decode cX7_spread 33 = .ok (.iconst 1, 1) := by decide +kernel
theorem dX7_spread_34 : decode cX7_spread 34 = .ok (.iadd, 1) := by decide +kernel
theorem dX7_spread_35 : decode cX7_spread 35 = .ok (.bipush 7, 2) := by decide +kernel
theorem dX7_spread_37 : decode cX7_spread 37 = .ok (.invokestatic 67, 3) := by decide +kernel
theorem dX7_spread_40 : decode cX7_spread 40 = .ok (.istore 7, 2) := by decide +kernel
theorem dX7_spread_42 : decode cX7_spread 42 = .ok (.iload 4, 2) := by decide +kernel
theorem dX7_spread_44 : decode cX7_spread 44 = .ok (.iconst 1, 1) := by decide +kernel
theorem dX7_spread_45 : decode cX7_spread 45 = .ok (.isub, 1) := by decide +kernel
theorem dX7_spread_46 : decode cX7_spread 46 = .ok (.istore 8, 2) := by decide +kernel
theorem dX7_spread_48 : decode cX7_spread 48 = .ok (.iload 8, 2) := by decide +kernel
theorem dX7_spread_50 : decode cX7_spread 50 = .ok (.iload 7, 2) := by decide +kernel
theorem dX7_spread_52 : decode cX7_spread 52 = .ok (.if_icmp .gt 91, 3) := by decide +kernel
theorem dX7_spread_55 : decode cX7_spread 55 = .ok (.iload 8, 2) := by decide +kernel
theorem dX7_spread_57 : decode cX7_spread 57 = .ok (.ifCond .ne 8, 3) := by decide +kernel
theorem dX7_spread_60 : decode cX7_spread 60 = .ok (.iload 5, 2) := by decide +kernel
theorem dX7_spread_62 : decode cX7_spread 62 = .ok (.goto 20, 3) := by decide +kernel
theorem dX7_spread_65 : decode cX7_spread 65 = .ok (.aload_n 0, 1) := by decide +kernel
theorem dX7_spread_66 : decode cX7_spread 66 = .ok (.getfield 25, 3) := by decide +kernel
theorem dX7_spread_69 : decode cX7_spread 69 = .ok (.iload 5, 2) := by decide +kernel
theorem dX7_spread_71 : decode cX7_spread 71 = .ok (.iload 8, 2) := by decide +kernel
theorem dX7_spread_73 : decode cX7_spread 73 = .ok (.iload 6, 2) := by decide +kernel
theorem dX7_spread_75 : decode cX7_spread 75 = .ok (.aload_n 0, 1) := by decide +kernel
theorem dX7_spread_76 : decode cX7_spread 76 = .ok (.getfield 21, 3) := by decide +kernel
theorem dX7_spread_79 : decode cX7_spread 79 = .ok (.invokevirtual 73, 3) := by decide +kernel
theorem dX7_spread_82 : decode cX7_spread 82 = .ok (.iload 8, 2) := by decide +kernel
theorem dX7_spread_84 : decode cX7_spread 84 = .ok (.invokestatic 79, 3) := by decide +kernel
theorem dX7_spread_87 : decode cX7_spread 87 = .ok (.istore 9, 2) := by decide +kernel
theorem dX7_spread_89 : decode cX7_spread 89 = .ok (.aload_n 2, 1) := by decide +kernel
theorem dX7_spread_90 : decode cX7_spread 90 = .ok (.getfield 82, 3) := by decide +kernel
theorem dX7_spread_93 : decode cX7_spread 93 = .ok (.iload_n 3, 1) := by decide +kernel
theorem dX7_spread_94 : decode cX7_spread 94 = .ok (.baload, 1) := by decide +kernel
theorem dX7_spread_95 : decode cX7_spread 95 = .ok (.ifCond .ne 14, 3) := by decide +kernel
theorem dX7_spread_98 : decode cX7_spread 98 = .ok (.aload_n 2, 1) := by decide +kernel
theorem dX7_spread_99 : decode cX7_spread 99 = .ok (.getfield 32, 3) := by decide +kernel
theorem dX7_spread_102 : decode cX7_spread 102 = .ok (.iload_n 3, 1) := by decide +kernel
theorem dX7_spread_103 : decode cX7_spread 103 = .ok (.iaload, 1) := by decide +kernel
theorem dX7_spread_104 : decode cX7_spread 104 = .ok (.iload 9, 2) := by decide +kernel
theorem dX7_spread_106 : decode cX7_spread 106 = .ok (.if_icmp .ne 31, 3) := by decide +kernel
theorem dX7_spread_109 : decode cX7_spread 109 = .ok (.aload_n 0, 1) := by decide +kernel
theorem dX7_spread_110 : decode cX7_spread 110 = .ok (.aload_n 0, 1) := by decide +kernel
theorem dX7_spread_111 : decode cX7_spread 111 = .ok (.getfield 18, 3) := by decide +kernel
theorem dX7_spread_114 : decode cX7_spread 114 = .ok (.iload 9, 2) := by decide +kernel
theorem dX7_spread_116 : decode cX7_spread 116 = .ok (.aload_n 0, 1) := by decide +kernel
theorem dX7_spread_117 : decode cX7_spread 117 = .ok (.getfield 12, 3) := by decide +kernel
theorem dX7_spread_120 : decode cX7_spread 120 = .ok (.getfield 86, 3) := by decide +kernel
theorem dX7_spread_123 : decode cX7_spread 123 = .ok (.iload_n 1, 1) := by decide +kernel
theorem dX7_spread_124 : decode cX7_spread 124 = .ok (.iaload, 1) := by decide +kernel
theorem dX7_spread_125 : decode cX7_spread 125 = .ok (.aload_n 0, 1) := by decide +kernel
theorem dX7_spread_126 : decode cX7_spread 126 = .ok (.getfield 12, 3) := by decide +kernel
theorem dX7_spread_129 : decode cX7_spread 129 = .ok (.getfield 89, 3) := by decide +kernel
theorem dX7_spread_132 : decode cX7_spread 132 = .ok (.iload_n 1, 1) := by decide +kernel
theorem dX7_spread_133 : decode cX7_spread 133 = .ok (.iaload, 1) := by decide +kernel
theorem dX7_spread_134 : decode cX7_spread 134 = .ok (.invokevirtual 38, 3) := by decide +kernel
theorem dX7_spread_137 : decode cX7_spread 137 = .ok (.iinc 8 1, 3) := by decide +kernel
theorem dX7_spread_140 : decode cX7_spread 140 = .ok (.goto (-92), 3) := by decide +kernel
theorem dX7_spread_143 : decode cX7_spread 143 = .ok (.return_, 1) := by decide +kernel
set_option maxRecDepth 20000 in
theorem ggX7_enter_X9_cellOfPlace : GoodIn wsX7_enter wsX9_cellOfPlace := goodIn_r _ [5] (by decide +kernel) (by decide +kernel)
set_option maxRecDepth 20000 in
theorem gX7_enter_X9_cellOfPlace_n61 : GoodIn wsX7_enter (wsX9_cellOfPlace) := ggX7_enter_X9_cellOfPlace
set_option maxRecDepth 20000 in
theorem ggX7_enter_X4_add : GoodIn wsX7_enter wsX4_add := goodIn_r _ [10, 11, 12, 13, 14, 15, 16, 17, 18, 19, 29, 30, 31, 32] (by decide +kernel) (by decide +kernel)
set_option maxRecDepth 20000 in
theorem gX7_enter_X4_add : GoodIn wsX7_enter (wsV RX7 97 RX4 yX4_add wsX4_add) := goodIn_app (goodIn_of _ (by decide +kernel)) ggX7_enter_X4_add
theorem dX7_enter_0 : decode cX7_enter 0 = .ok (.aload_n 0, 1) := by decide +kernel
theorem dX7_enter_1 : decode cX7_enter 1 = .ok (.getfield 21, 3) := by decide +kernel
theorem dX7_enter_4 : decode cX7_enter 4 = .ok (.getfield 92, 3) := by decide +kernel
theorem dX7_enter_7 : decode cX7_enter 7 = .ok (.iload_n 2, 1) := by decide +kernel
theorem dX7_enter_8 : decode cX7_enter 8 = .ok (.invokestatic 61, 3) := by decide +kernel
theorem dX7_enter_11 : decode cX7_enter 11 = .ok (.iaload, 1) := by decide +kernel
theorem dX7_enter_12 : decode cX7_enter 12 = .ok (.iconst 2, 1) := by decide +kernel
theorem dX7_enter_13 : decode cX7_enter 13 = .ok (.if_icmp .ne 16, 3) := by decide +kernel
theorem dX7_enter_16 : decode cX7_enter 16 = .ok (.aload_n 1, 1) := by decide +kernel
theorem dX7_enter_17 : decode cX7_enter 17 = .ok (.iload_n 2, 1) := by decide +kernel
theorem dX7_enter_18 : decode cX7_enter 18 = .ok (.iconst 0, 1) := by decide +kernel
theorem dX7_enter_19 : decode cX7_enter 19 = .ok (.iload_n 3, 1) := by decide +kernel
theorem dX7_enter_20 : decode cX7_enter 20 = .ok (.iload 4, 2) := by decide +kernel
theorem dX7_enter_22 : decode cX7_enter 22 = .ok (.iadd, 1) := by decide +kernel
theorem dX7_enter_23 : decode cX7_enter 23 = .ok (.invokevirtual 97, 3) := by decide +kernel
theorem dX7_enter_26 : decode cX7_enter 26 = .ok (.goto 11, 3) := by decide +kernel
theorem dX7_enter_29 : decode cX7_enter 29 = .ok (.aload_n 1, 1) := by decide +kernel
theorem dX7_enter_30 : decode cX7_enter 30 = .ok (.iload_n 2, 1) := by decide +kernel
theorem dX7_enter_31 : decode cX7_enter 31 = .ok (.iload_n 3, 1) := by decide +kernel
theorem dX7_enter_32 : decode cX7_enter 32 = .ok (.iload 4, 2) := by decide +kernel
theorem dX7_enter_34 : decode cX7_enter 34 = .ok (.invokevirtual 97, 3) := by decide +kernel
theorem dX7_enter_37 : decode cX7_enter 37 = .ok (.return_, 1) := by decide +kernel
theorem dX7_sumUp_0 : decode cX7_sumUp 0 = .ok (.aload_n 0, 1) := by decide +kernel
theorem dX7_sumUp_1 : decode cX7_sumUp 1 = .ok (.iconst 0, 1) := by decide +kernel
theorem dX7_sumUp_2 : decode cX7_sumUp 2 = .ok (.putfield 101, 3) := by decide +kernel
theorem dX7_sumUp_5 : decode cX7_sumUp 5 = .ok (.aload_n 0, 1) := by decide +kernel
theorem dX7_sumUp_6 : decode cX7_sumUp 6 = .ok (.iconst 0, 1) := by decide +kernel
theorem dX7_sumUp_7 : decode cX7_sumUp 7 = .ok (.putfield 103, 3) := by decide +kernel
theorem dX7_sumUp_10 : decode cX7_sumUp 10 = .ok (.iconst 0, 1) := by decide +kernel
theorem dX7_sumUp_11 : decode cX7_sumUp 11 = .ok (.istore_n 1, 1) := by decide +kernel
theorem dX7_sumUp_12 : decode cX7_sumUp 12 = .ok (.iload_n 1, 1) := by decide +kernel
theorem dX7_sumUp_13 : decode cX7_sumUp 13 = .ok (.aload_n 0, 1) := by decide +kernel
theorem dX7_sumUp_14 : decode cX7_sumUp 14 = .ok (.getfield 12, 3) := by decide +kernel
theorem dX7_sumUp_17 : decode cX7_sumUp 17 = .ok (.getfield 46, 3) := by decide +kernel
theorem dX7_sumUp_20 : decode cX7_sumUp 20 = .ok (.if_icmp .ge 71, 3) := by decide +kernel
theorem dX7_sumUp_23 : decode cX7_sumUp 23 = .ok (.aload_n 0, 1) := by decide +kernel
theorem dX7_sumUp_24 : decode cX7_sumUp 24 = .ok (.ldc 105, 2) := by decide +kernel
theorem dX7_sumUp_26 : decode cX7_sumUp 26 = .ok (.aload_n 0, 1) := by decide +kernel
theorem dX7_sumUp_27 : decode cX7_sumUp 27 = .ok (.getfield 101, 3) := by decide +kernel
theorem dX7_sumUp_30 : decode cX7_sumUp 30 = .ok (.aload_n 0, 1) := by decide +kernel
theorem dX7_sumUp_31 : decode cX7_sumUp 31 = .ok (.getfield 12, 3) := by decide +kernel
theorem dX7_sumUp_34 : decode cX7_sumUp 34 = .ok (.getfield 86, 3) := by decide +kernel
theorem dX7_sumUp_37 : decode cX7_sumUp 37 = .ok (.aload_n 0, 1) := by decide +kernel
theorem dX7_sumUp_38 : decode cX7_sumUp 38 = .ok (.getfield 12, 3) := by decide +kernel
theorem dX7_sumUp_41 : decode cX7_sumUp 41 = .ok (.getfield 49, 3) := by decide +kernel
theorem dX7_sumUp_44 : decode cX7_sumUp 44 = .ok (.iload_n 1, 1) := by decide +kernel
theorem dX7_sumUp_45 : decode cX7_sumUp 45 = .ok (.iaload, 1) := by decide +kernel
theorem dX7_sumUp_46 : decode cX7_sumUp 46 = .ok (.iaload, 1) := by decide +kernel
theorem dX7_sumUp_47 : decode cX7_sumUp 47 = .ok (.iadd, 1) := by decide +kernel
theorem dX7_sumUp_48 : decode cX7_sumUp 48 = .ok (.invokestatic 67, 3) := by decide +kernel
theorem dX7_sumUp_51 : decode cX7_sumUp 51 = .ok (.putfield 101, 3) := by decide +kernel
theorem dX7_sumUp_54 : decode cX7_sumUp 54 = .ok (.aload_n 0, 1) := by decide +kernel
theorem dX7_sumUp_55 : decode cX7_sumUp 55 = .ok (.ldc 105, 2) := by decide +kernel
theorem dX7_sumUp_57 : decode cX7_sumUp 57 = .ok (.aload_n 0, 1) := by decide +kernel
theorem dX7_sumUp_58 : decode cX7_sumUp 58 = .ok (.getfield 103, 3) := by decide +kernel
theorem dX7_sumUp_61 : decode cX7_sumUp 61 = .ok (.aload_n 0, 1) := by decide +kernel
theorem dX7_sumUp_62 : decode cX7_sumUp 62 = .ok (.getfield 12, 3) := by decide +kernel
theorem dX7_sumUp_65 : decode cX7_sumUp 65 = .ok (.getfield 89, 3) := by decide +kernel
theorem dX7_sumUp_68 : decode cX7_sumUp 68 = .ok (.aload_n 0, 1) := by decide +kernel
theorem dX7_sumUp_69 : decode cX7_sumUp 69 = .ok (.getfield 12, 3) := by decide +kernel
theorem dX7_sumUp_72 : decode cX7_sumUp 72 = .ok (.getfield 49, 3) := by decide +kernel
theorem dX7_sumUp_75 : decode cX7_sumUp 75 = .ok (.iload_n 1, 1) := by decide +kernel
theorem dX7_sumUp_76 : decode cX7_sumUp 76 = .ok (.iaload, 1) := by decide +kernel
theorem dX7_sumUp_77 : decode cX7_sumUp 77 = .ok (.iaload, 1) := by decide +kernel
theorem dX7_sumUp_78 : decode cX7_sumUp 78 = .ok (.iadd, 1) := by decide +kernel
theorem dX7_sumUp_79 : decode cX7_sumUp 79 = .ok (.invokestatic 67, 3) := by decide +kernel
theorem dX7_sumUp_82 : decode cX7_sumUp 82 = .ok (.putfield 103, 3) := by decide +kernel
theorem dX7_sumUp_85 : decode cX7_sumUp 85 = .ok (.iinc 1 1, 3) := by decide +kernel
theorem dX7_sumUp_88 : decode cX7_sumUp 88 = .ok (.goto (-76), 3) := by decide +kernel
theorem dX7_sumUp_91 : decode cX7_sumUp 91 = .ok (.return_, 1) := by decide +kernel
theorem dX7_verdict_0 : decode cX7_verdict 0 = .ok (.aload_n 0, 1) := by decide +kernel
theorem dX7_verdict_1 : decode cX7_verdict 1 = .ok (.getfield 101, 3) := by decide +kernel
theorem dX7_verdict_4 : decode cX7_verdict 4 = .ok (.ifCond .le 12, 3) := by decide +kernel
theorem dX7_verdict_7 : decode cX7_verdict 7 = .ok (.aload_n 0, 1) := by decide +kernel
theorem dX7_verdict_8 : decode cX7_verdict 8 = .ok (.getfield 103, 3) := by decide +kernel
theorem dX7_verdict_11 : decode cX7_verdict 11 = .ok (.ifCond .ne 5, 3) := by decide +kernel
theorem dX7_verdict_14 : decode cX7_verdict 14 = .ok (.iconst 0, 1) := by decide +kernel
theorem dX7_verdict_15 : decode cX7_verdict 15 = .ok (.ireturn, 1) := by decide +kernel
theorem dX7_verdict_16 : decode cX7_verdict 16 = .ok (.aload_n 0, 1) := by decide +kernel
theorem dX7_verdict_17 : decode cX7_verdict 17 = .ok (.getfield 103, 3) := by decide +kernel
theorem dX7_verdict_20 : decode cX7_verdict 20 = .ok (.ifCond .le 14, 3) := by decide +kernel
theorem dX7_verdict_23 : decode cX7_verdict 23 = .ok (.aload_n 0, 1) := by decide +kernel
theorem dX7_verdict_24 : decode cX7_verdict 24 = .ok (.getfield 101, 3) := by decide +kernel
theorem dX7_verdict_27 : decode cX7_verdict 27 = .ok (.ifCond .ne 7, 3) := by decide +kernel
theorem dX7_verdict_30 : decode cX7_verdict 30 = .ok (.iconst 2, 1) := by decide +kernel
theorem dX7_verdict_31 : decode cX7_verdict 31 = .ok (.goto 4, 3) := by decide +kernel
theorem dX7_verdict_34 : decode cX7_verdict 34 = .ok (.iconst 1, 1) := by decide +kernel
theorem dX7_verdict_35 : decode cX7_verdict 35 = .ok (.ireturn, 1) := by decide +kernel
theorem dX8_init_0 : decode cX8_init 0 = .ok (.aload_n 0, 1) := by decide +kernel
theorem dX8_init_1 : decode cX8_init 1 = .ok (.invokespecial 3, 3) := by decide +kernel
theorem dX8_init_4 : decode cX8_init 4 = .ok (.aload_n 0, 1) := by decide +kernel
theorem dX8_init_5 : decode cX8_init 5 = .ok (.sipush 192, 3) := by decide +kernel
theorem dX8_init_8 : decode cX8_init 8 = .ok (.newarray .int, 2) := by decide +kernel
theorem dX8_init_10 : decode cX8_init 10 = .ok (.putfield 9, 3) := by decide +kernel
theorem dX8_init_13 : decode cX8_init 13 = .ok (.aload_n 0, 1) := by decide +kernel
theorem dX8_init_14 : decode cX8_init 14 = .ok (.sipush 192, 3) := by decide +kernel
theorem dX8_init_17 : decode cX8_init 17 = .ok (.newarray .int, 2) := by decide +kernel
theorem dX8_init_19 : decode cX8_init 19 = .ok (.putfield 15, 3) := by decide +kernel
theorem dX8_init_22 : decode cX8_init 22 = .ok (.return_, 1) := by decide +kernel
theorem dX8_put_0 : decode cX8_put 0 = .ok (.aload_n 0, 1) := by decide +kernel
theorem dX8_put_1 : decode cX8_put 1 = .ok (.getfield 9, 3) := by decide +kernel
theorem dX8_put_4 : decode cX8_put 4 = .ok (.iload_n 1, 1) := by decide +kernel
theorem dX8_put_5 : decode cX8_put 5 = .ok (.bipush 24, 2) := by decide +kernel
theorem dX8_put_7 : decode cX8_put 7 = .ok (.imul, 1) := by decide +kernel
theorem dX8_put_8 : decode cX8_put 8 = .ok (.iload_n 2, 1) := by decide +kernel
theorem dX8_put_9 : decode cX8_put 9 = .ok (.iadd, 1) := by decide +kernel
theorem dX8_put_10 : decode cX8_put 10 = .ok (.iload_n 3, 1) := by decide +kernel
theorem dX8_put_11 : decode cX8_put 11 = .ok (.iastore, 1) := by decide +kernel
theorem dX8_put_12 : decode cX8_put 12 = .ok (.aload_n 0, 1) := by decide +kernel
theorem dX8_put_13 : decode cX8_put 13 = .ok (.getfield 15, 3) := by decide +kernel
theorem dX8_put_16 : decode cX8_put 16 = .ok (.iload_n 1, 1) := by decide +kernel
theorem dX8_put_17 : decode cX8_put 17 = .ok (.bipush 24, 2) := by decide +kernel
theorem dX8_put_19 : decode cX8_put 19 = .ok (.imul, 1) := by decide +kernel
theorem dX8_put_20 : decode cX8_put 20 = .ok (.iload_n 2, 1) := by decide +kernel
theorem dX8_put_21 : decode cX8_put 21 = .ok (.iadd, 1) := by decide +kernel
theorem dX8_put_22 : decode cX8_put 22 = .ok (.iload 4, 2) := by decide +kernel
theorem dX8_put_24 : decode cX8_put 24 = .ok (.iastore, 1) := by decide +kernel
theorem dX8_put_25 : decode cX8_put 25 = .ok (.return_, 1) := by decide +kernel
set_option maxRecDepth 20000 in
theorem ggX8_leadFrom_X5_movedFrom : GoodIn wsX8_leadFrom wsX5_movedFrom := goodIn_r _ [7, 8, 9, 10, 11, 12, 13, 14, 15, 6, 16, 17, 18, 19, 20, 21, 22, 25, 26, 27] (by decide +kernel) (by decide +kernel)
set_option maxRecDepth 20000 in
theorem gX8_leadFrom_X5_movedFrom : GoodIn wsX8_leadFrom (wsV RX8 18 RX5 yX5_movedFrom wsX5_movedFrom) := goodIn_app (goodIn_of _ (by decide +kernel)) ggX8_leadFrom_X5_movedFrom
theorem dX8_leadFrom_0 : decode cX8_leadFrom 0 = .ok (.iload_n 2, 1) := by decide +kernel
theorem dX8_leadFrom_1 : decode cX8_leadFrom 1 = .ok (.bipush 24, 2) := by decide +kernel
theorem dX8_leadFrom_3 : decode cX8_leadFrom 3 = .ok (.imul, 1) := by decide +kernel
theorem dX8_leadFrom_4 : decode cX8_leadFrom 4 = .ok (.iload_n 3, 1) := by decide +kernel
theorem dX8_leadFrom_5 : decode cX8_leadFrom 5 = .ok (.iadd, 1) := by decide +kernel
theorem dX8_leadFrom_6 : decode cX8_leadFrom 6 = .ok (.istore 5, 2) := by decide +kernel
theorem dX8_leadFrom_8 : decode cX8_leadFrom 8 = .ok (.aload 4, 2) := by decide +kernel
theorem dX8_leadFrom_10 : decode cX8_leadFrom 10 = .ok (.iload_n 1, 1) := by decide +kernel
theorem dX8_leadFrom_11 : decode cX8_leadFrom 11 = .ok (.aload_n 0, 1) := by decide +kernel
theorem dX8_leadFrom_12 : decode cX8_leadFrom 12 = .ok (.getfield 9, 3) := by decide +kernel
theorem dX8_leadFrom_15 : decode cX8_leadFrom 15 = .ok (.iload 5, 2) := by decide +kernel
theorem dX8_leadFrom_17 : decode cX8_leadFrom 17 = .ok (.iaload, 1) := by decide +kernel
theorem dX8_leadFrom_18 : decode cX8_leadFrom 18 = .ok (.aload_n 0, 1) := by decide +kernel
theorem dX8_leadFrom_19 : decode cX8_leadFrom 19 = .ok (.getfield 15, 3) := by decide +kernel
theorem dX8_leadFrom_22 : decode cX8_leadFrom 22 = .ok (.iload 5, 2) := by decide +kernel
theorem dX8_leadFrom_24 : decode cX8_leadFrom 24 = .ok (.iaload, 1) := by decide +kernel
theorem dX8_leadFrom_25 : decode cX8_leadFrom 25 = .ok (.invokevirtual 18, 3) := by decide +kernel
theorem dX8_leadFrom_28 : decode cX8_leadFrom 28 = .ok (.ireturn, 1) := by decide +kernel
set_option maxRecDepth 20000 in
theorem ggX9_init_X5_init : GoodIn wsX9_init wsX5_init := goodIn_r _ [33, 34, 2, 3, 35, 36, 37, 38, 107, 108, 109] (by decide +kernel) (by decide +kernel)
set_option maxRecDepth 20000 in
theorem gX9_init_X5_init_n11 : GoodIn wsX9_init (wsX5_init) := ggX9_init_X5_init
set_option maxRecDepth 20000 in
theorem ggX9_init_X0_init : GoodIn wsX9_init wsX0_init := goodIn_r _ [41, 42, 2, 3, 37, 43, 44, 45, 46, 47, 48, 49, 50, 51, 52, 53, 54, 55, 118, 119, 120, 121, 122, 153, 154] (by decide +kernel) (by decide +kernel)
set_option maxRecDepth 20000 in
theorem gX9_init_X0_init : GoodIn wsX9_init (wsX0_init) := ggX9_init_X0_init
set_option maxRecDepth 20000 in
theorem ggX9_init_X6_init : GoodIn wsX9_init wsX6_init := goodIn_r _ [58, 59, 2, 3, 60, 61, 37, 62, 63, 64, 65, 66, 67, 68, 69, 70, 71, 123, 124, 125, 126, 127, 128, 129, 130, 131, 132, 133, 155, 156, 157, 158, 159, 160, 161, 162] (by decide +kernel) (by decide +kernel)
set_option maxRecDepth 20000 in
theorem gX9_init_X6_init : GoodIn wsX9_init (wsX6_init) := ggX9_init_X6_init
set_option maxRecDepth 20000 in
theorem ggX9_init_X7_init : GoodIn wsX9_init wsX7_init := goodIn_r _ [74, 75, 2, 3, 76, 77, 78, 79, 80, 81, 82, 83, 84, 85, 37, 86, 87, 88, 89, 163, 164, 165, 166, 134, 135, 136, 137, 138, 139] (by decide +kernel) (by decide +kernel)
set_option maxRecDepth 20000 in
theorem gX9_init_X7_init : GoodIn wsX9_init (wsX7_init) := ggX9_init_X7_init
set_option maxRecDepth 20000 in
theorem ggX9_init_X2_init : GoodIn wsX9_init wsX2_init := goodIn_r _ [92, 93, 2, 3, 37, 94, 95, 96, 97, 98, 99, 140, 141, 142, 143, 144, 145] (by decide +kernel) (by decide +kernel)
set_option maxRecDepth 20000 in
theorem gX9_init_X2_init : GoodIn wsX9_init (wsX2_init) := ggX9_init_X2_init
set_option maxRecDepth 20000 in
theorem ggX9_init_X3_init : GoodIn wsX9_init wsX3_init := goodIn_r _ [101, 102, 2, 3, 103, 67, 68, 104, 37, 105, 14, 106, 69, 70, 71, 155, 156, 157, 158, 159, 160, 161, 162, 146, 147, 148, 149, 150, 151, 152] (by decide +kernel) (by decide +kernel)
set_option maxRecDepth 20000 in
theorem gX9_init_X3_init_n68 : GoodIn wsX9_init (wsX3_init) := ggX9_init_X3_init
theorem dX9_init_0 : decode cX9_init 0 = .ok (.aload_n 0, 1) := by decide +kernel
theorem dX9_init_1 : decode cX9_init 1 = .ok (.invokespecial 3, 3) := by decide +kernel
theorem dX9_init_4 : decode cX9_init 4 = .ok (.aload_n 0, 1) := by decide +kernel
theorem dX9_init_5 : decode cX9_init 5 = .ok (.new 9, 3) := by decide +kernel
theorem dX9_init_8 : decode cX9_init 8 = .ok (.dup, 1) := by decide +kernel
theorem dX9_init_9 : decode cX9_init 9 = .ok (.invokespecial 11, 3) := by decide +kernel
theorem dX9_init_12 : decode cX9_init 12 = .ok (.putfield 12, 3) := by decide +kernel
theorem dX9_init_15 : decode cX9_init 15 = .ok (.aload_n 0, 1) := by decide +kernel
theorem dX9_init_16 : decode cX9_init 16 = .ok (.new 16, 3) := by decide +kernel
theorem dX9_init_19 : decode cX9_init 19 = .ok (.dup, 1) := by decide +kernel
theorem dX9_init_20 : decode cX9_init 20 = .ok (.invokespecial 18, 3) := by decide +kernel
theorem dX9_init_23 : decode cX9_init 23 = .ok (.putfield 19, 3) := by decide +kernel
theorem dX9_init_26 : decode cX9_init 26 = .ok (.aload_n 0, 1) := by decide +kernel
theorem dX9_init_27 : decode cX9_init 27 = .ok (.bipush 8, 2) := by decide +kernel
theorem dX9_init_29 : decode cX9_init 29 = .ok (.anewarray 23, 3) := by decide +kernel
theorem dX9_init_32 : decode cX9_init 32 = .ok (.putfield 25, 3) := by decide +kernel
theorem dX9_init_35 : decode cX9_init 35 = .ok (.aload_n 0, 1) := by decide +kernel
theorem dX9_init_36 : decode cX9_init 36 = .ok (.bipush 8, 2) := by decide +kernel
theorem dX9_init_38 : decode cX9_init 38 = .ok (.newarray .boolean, 2) := by decide +kernel
theorem dX9_init_40 : decode cX9_init 40 = .ok (.putfield 29, 3) := by decide +kernel
theorem dX9_init_43 : decode cX9_init 43 = .ok (.aload_n 0, 1) := by decide +kernel
theorem dX9_init_44 : decode cX9_init 44 = .ok (.iconst 0, 1) := by decide +kernel
theorem dX9_init_45 : decode cX9_init 45 = .ok (.putfield 33, 3) := by decide +kernel
theorem dX9_init_48 : decode cX9_init 48 = .ok (.aload_n 0, 1) := by decide +kernel
theorem dX9_init_49 : decode cX9_init 49 = .ok (.new 37, 3) := by decide +kernel
theorem dX9_init_52 : decode cX9_init 52 = .ok (.dup, 1) := by decide +kernel
theorem dX9_init_53 : decode cX9_init 53 = .ok (.aload_n 0, 1) := by decide +kernel
theorem dX9_init_54 : decode cX9_init 54 = .ok (.getfield 12, 3) := by decide +kernel
theorem dX9_init_57 : decode cX9_init 57 = .ok (.aload_n 0, 1) := by decide +kernel
theorem dX9_init_58 : decode cX9_init 58 = .ok (.getfield 19, 3) := by decide +kernel
theorem dX9_init_61 : decode cX9_init 61 = .ok (.invokespecial 39, 3) := by decide +kernel
theorem dX9_init_64 : decode cX9_init 64 = .ok (.putfield 42, 3) := by decide +kernel
theorem dX9_init_67 : decode cX9_init 67 = .ok (.aload_n 0, 1) := by decide +kernel
theorem dX9_init_68 : decode cX9_init 68 = .ok (.new 46, 3) := by decide +kernel
theorem dX9_init_71 : decode cX9_init 71 = .ok (.dup, 1) := by decide +kernel
theorem dX9_init_72 : decode cX9_init 72 = .ok (.aload_n 0, 1) := by decide +kernel
theorem dX9_init_73 : decode cX9_init 73 = .ok (.getfield 12, 3) := by decide +kernel
theorem dX9_init_76 : decode cX9_init 76 = .ok (.aload_n 0, 1) := by decide +kernel
theorem dX9_init_77 : decode cX9_init 77 = .ok (.getfield 19, 3) := by decide +kernel
theorem dX9_init_80 : decode cX9_init 80 = .ok (.getfield 48, 3) := by decide +kernel
theorem dX9_init_83 : decode cX9_init 83 = .ok (.invokespecial 52, 3) := by decide +kernel
theorem dX9_init_86 : decode cX9_init 86 = .ok (.putfield 55, 3) := by decide +kernel
theorem dX9_init_89 : decode cX9_init 89 = .ok (.aload_n 0, 1) := by decide +kernel
theorem dX9_init_90 : decode cX9_init 90 = .ok (.new 59, 3) := by decide +kernel
theorem dX9_init_93 : decode cX9_init 93 = .ok (.dup, 1) := by decide +kernel
theorem dX9_init_94 : decode cX9_init 94 = .ok (.aload_n 0, 1) := by decide +kernel
theorem dX9_init_95 : decode cX9_init 95 = .ok (.getfield 12, 3) := by decide +kernel
theorem dX9_init_98 : decode cX9_init 98 = .ok (.invokespecial 61, 3) := by decide +kernel
theorem dX9_init_101 : decode cX9_init 101 = .ok (.putfield 64, 3) := by decide +kernel
theorem dX9_init_104 : decode cX9_init 104 = .ok (.iconst 0, 1) := by decide +kernel
theorem dX9_init_105 : decode cX9_init 105 = .ok (.istore_n 1, 1) := by decide +kernel
theorem dX9_init_106 : decode cX9_init 106 = .ok (.iload_n 1, 1) := by decide +kernel
theorem dX9_init_107 : decode cX9_init 107 = .ok (.bipush 8, 2) := by decide +kernel
theorem dX9_init_109 : decode cX9_init 109 = .ok (.if_icmp .ge 22, 3) := by decide +kernel
theorem dX9_init_112 : decode cX9_init 112 = .ok (.aload_n 0, 1) := by decide +kernel
theorem dX9_init_113 : decode cX9_init 113 = .ok (.getfield 25, 3) := by decide +kernel
theorem dX9_init_116 : decode cX9_init 116 = .ok (.iload_n 1, 1) := by decide +kernel
theorem dX9_init_117 : decode cX9_init 117 = .ok (.new 23, 3) := by decide +kernel
theorem dX9_init_120 : decode cX9_init 120 = .ok (.dup, 1) := by decide +kernel
theorem dX9_init_121 : decode cX9_init 121 = .ok (.invokespecial 68, 3) := by decide +kernel
theorem dX9_init_124 : decode cX9_init 124 = .ok (.aastore, 1) := by decide +kernel
theorem dX9_init_125 : decode cX9_init 125 = .ok (.iinc 1 1, 3) := by decide +kernel
theorem dX9_init_128 : decode cX9_init 128 = .ok (.goto (-22), 3) := by decide +kernel
theorem dX9_init_131 : decode cX9_init 131 = .ok (.return_, 1) := by decide +kernel
set_option maxRecDepth 20000 in
theorem ggX9_land_X9_within : GoodIn wsX9_land wsX9_within := goodIn_r _ [8] (by decide +kernel) (by decide +kernel)
set_option maxRecDepth 20000 in
theorem gX9_land_X9_within : GoodIn wsX9_land (va_wsS RX9 69 yX9_within wsX9_within) := goodIn_app (goodIn_of _ (by decide +kernel)) ggX9_land_X9_within
set_option maxRecDepth 20000 in
theorem ggX9_land_X5_clear : GoodIn wsX9_land wsX5_clear := goodIn_r _ [13, 14, 15, 16, 17, 18, 19, 20, 35, 36, 37] (by decide +kernel) (by decide +kernel)
set_option maxRecDepth 20000 in
theorem gX9_land_X5_clear : GoodIn wsX9_land (wsV RX9 73 RX5 yX5_clear wsX5_clear) := goodIn_app (goodIn_of _ (by decide +kernel)) ggX9_land_X5_clear
theorem dX9_land_0 : decode cX9_land 0 = .ok (.iload_n 1, 1) := by decide +kernel
theorem dX9_land_1 : decode cX9_land 1 = .ok (.iconst 4, 1) := by decide +kernel
theorem dX9_land_2 : decode cX9_land 2 = .ok (.bipush 24, 2) := by decide +kernel
theorem dX9_land_4 : decode cX9_land 4 = .ok (.invokestatic 69, 3) := by decide +kernel
theorem dX9_land_7 : decode cX9_land 7 = .ok (.ifCond .eq 13, 3) := by decide +kernel
theorem dX9_land_10 : decode cX9_land 10 = .ok (.iload_n 2, 1) := by decide +kernel
theorem dX9_land_11 : decode cX9_land 11 = .ok (.iconst 4, 1) := by decide +kernel
theorem dX9_land_12 : decode cX9_land 12 = .ok (.bipush 24, 2) := by decide +kernel
theorem dX9_land_14 : decode cX9_land 14 = .ok (.invokestatic 69, 3) := by decide +kernel
theorem dX9_land_17 : decode cX9_land 17 = .ok (.ifCond .ne 6, 3) := by decide +kernel
theorem dX9_land_20 : decode cX9_land 20 = .ok (.bipush (-2), 2) := by decide +kernel
theorem dX9_land_22 : decode cX9_land 22 = .ok (.ireturn, 1) := by decide +kernel
theorem dX9_land_23 : decode cX9_land 23 = .ok (.aload_n 0, 1) := by decide +kernel
theorem dX9_land_24 : decode cX9_land 24 = .ok (.getfield 12, 3) := by decide +kernel
theorem dX9_land_27 : decode cX9_land 27 = .ok (.iload_n 1, 1) := by decide +kernel
theorem dX9_land_28 : decode cX9_land 28 = .ok (.iload_n 2, 1) := by decide +kernel
theorem dX9_land_29 : decode cX9_land 29 = .ok (.invokevirtual 73, 3) := by decide +kernel
theorem dX9_land_32 : decode cX9_land 32 = .ok (.aload_n 0, 1) := by decide +kernel
theorem dX9_land_33 : decode cX9_land 33 = .ok (.iconst 0, 1) := by decide +kernel
theorem dX9_land_34 : decode cX9_land 34 = .ok (.putfield 33, 3) := by decide +kernel
theorem dX9_land_37 : decode cX9_land 37 = .ok (.aload_n 0, 1) := by decide +kernel
theorem dX9_land_38 : decode cX9_land 38 = .ok (.getfield 64, 3) := by decide +kernel
theorem dX9_land_41 : decode cX9_land 41 = .ok (.iconst 0, 1) := by decide +kernel
theorem dX9_land_42 : decode cX9_land 42 = .ok (.putfield 77, 3) := by decide +kernel
theorem dX9_land_45 : decode cX9_land 45 = .ok (.iconst 1, 1) := by decide +kernel
theorem dX9_land_46 : decode cX9_land 46 = .ok (.ireturn, 1) := by decide +kernel
set_option maxRecDepth 20000 in
theorem ggX9_cell_X5_has : GoodIn wsX9_cell wsX5_has := goodIn_r _ [8, 9, 10, 11, 12, 13, 33, 34, 35] (by decide +kernel) (by decide +kernel)
set_option maxRecDepth 20000 in
theorem gX9_cell_X5_has : GoodIn wsX9_cell (wsV RX9 80 RX5 yX5_has wsX5_has) := goodIn_app (goodIn_of _ (by decide +kernel)) ggX9_cell_X5_has
set_option maxRecDepth 20000 in
theorem ggX9_cell_X9_within : GoodIn wsX9_cell wsX9_within := goodIn_r _ [13] (by decide +kernel) (by decide +kernel)
set_option maxRecDepth 20000 in
theorem gX9_cell_X9_within : GoodIn wsX9_cell (va_wsS RX9 69 yX9_within wsX9_within) := goodIn_app (goodIn_of _ (by decide +kernel)) ggX9_cell_X9_within
set_option maxRecDepth 20000 in
theorem ggX9_cell_X9_cellOf : GoodIn wsX9_cell wsX9_cellOf := goodIn_r _ [17] (by decide +kernel) (by decide +kernel)
set_option maxRecDepth 20000 in
theorem gX9_cell_X9_cellOf : GoodIn wsX9_cell (va_wsS RX9 84 yX9_cellOf wsX9_cellOf) := goodIn_app (goodIn_of _ (by decide +kernel)) ggX9_cell_X9_cellOf
set_option maxRecDepth 20000 in
theorem ggX9_cell_X2_standOn : GoodIn wsX9_cell wsX2_standOn := goodIn_r _ [22, 23, 24, 36, 37, 38, 39, 40, 41] (by decide +kernel) (by decide +kernel)
set_option maxRecDepth 20000 in
theorem gX9_cell_X2_standOn : GoodIn wsX9_cell (wsV RX9 88 RX2 yX2_standOn wsX2_standOn) := goodIn_app (goodIn_of _ (by decide +kernel)) ggX9_cell_X2_standOn
theorem dX9_cell_0 : decode cX9_cell 0 = .ok (.aload_n 0, 1) := by decide +kernel
theorem dX9_cell_1 : decode cX9_cell 1 = .ok (.getfield 12, 3) := by decide +kernel
theorem dX9_cell_4 : decode cX9_cell 4 = .ok (.iload_n 1, 1) := by decide +kernel
theorem dX9_cell_5 : decode cX9_cell 5 = .ok (.iload_n 2, 1) := by decide +kernel
theorem dX9_cell_6 : decode cX9_cell 6 = .ok (.invokevirtual 80, 3) := by decide +kernel
theorem dX9_cell_9 : decode cX9_cell 9 = .ok (.ifCond .eq 12, 3) := by decide +kernel
theorem dX9_cell_12 : decode cX9_cell 12 = .ok (.iload_n 3, 1) := by decide +kernel
theorem dX9_cell_13 : decode cX9_cell 13 = .ok (.iconst 0, 1) := by decide +kernel
theorem dX9_cell_14 : decode cX9_cell 14 = .ok (.iconst 2, 1) := by decide +kernel
theorem dX9_cell_15 : decode cX9_cell 15 = .ok (.invokestatic 69, 3) := by decide +kernel
theorem dX9_cell_18 : decode cX9_cell 18 = .ok (.ifCond .ne 6, 3) := by decide +kernel
theorem dX9_cell_21 : decode cX9_cell 21 = .ok (.bipush (-2), 2) := by decide +kernel
theorem dX9_cell_23 : decode cX9_cell 23 = .ok (.ireturn, 1) := by decide +kernel
theorem dX9_cell_24 : decode cX9_cell 24 = .ok (.iload_n 1, 1) := by decide +kernel
theorem dX9_cell_25 : decode cX9_cell 25 = .ok (.iload_n 2, 1) := by decide +kernel
theorem dX9_cell_26 : decode cX9_cell 26 = .ok (.invokestatic 84, 3) := by decide +kernel
theorem dX9_cell_29 : decode cX9_cell 29 = .ok (.istore 4, 2) := by decide +kernel
theorem dX9_cell_31 : decode cX9_cell 31 = .ok (.iload_n 3, 1) := by decide +kernel
theorem dX9_cell_32 : decode cX9_cell 32 = .ok (.iconst 1, 1) := by decide +kernel
theorem dX9_cell_33 : decode cX9_cell 33 = .ok (.if_icmp .ne 18, 3) := by decide +kernel
theorem dX9_cell_36 : decode cX9_cell 36 = .ok (.aload_n 0, 1) := by decide +kernel
theorem dX9_cell_37 : decode cX9_cell 37 = .ok (.getfield 64, 3) := by decide +kernel
theorem dX9_cell_40 : decode cX9_cell 40 = .ok (.iload 4, 2) := by decide +kernel
theorem dX9_cell_42 : decode cX9_cell 42 = .ok (.invokevirtual 88, 3) := by decide +kernel
theorem dX9_cell_45 : decode cX9_cell 45 = .ok (.ifCond .eq 6, 3) := by decide +kernel
theorem dX9_cell_48 : decode cX9_cell 48 = .ok (.bipush (-3), 2) := by decide +kernel
theorem dX9_cell_50 : decode cX9_cell 50 = .ok (.ireturn, 1) := by decide +kernel
theorem dX9_cell_51 : decode cX9_cell 51 = .ok (.aload_n 0, 1) := by decide +kernel
theorem dX9_cell_52 : decode cX9_cell 52 = .ok (.getfield 12, 3) := by decide +kernel
theorem dX9_cell_55 : decode cX9_cell 55 = .ok (.getfield 92, 3) := by decide +kernel
theorem dX9_cell_58 : decode cX9_cell 58 = .ok (.iload 4, 2) := by decide +kernel
theorem dX9_cell_60 : decode cX9_cell 60 = .ok (.iaload, 1) := by decide +kernel
theorem dX9_cell_61 : decode cX9_cell 61 = .ok (.istore 5, 2) := by decide +kernel
theorem dX9_cell_63 : decode cX9_cell 63 = .ok (.aload_n 0, 1) := by decide +kernel
theorem dX9_cell_64 : decode cX9_cell 64 = .ok (.getfield 12, 3) := by decide +kernel
theorem dX9_cell_67 : decode cX9_cell 67 = .ok (.getfield 92, 3) := by decide +kernel
theorem dX9_cell_70 : decode cX9_cell 70 = .ok (.iload 4, 2) := by decide +kernel
theorem dX9_cell_72 : decode cX9_cell 72 = .ok (.iload_n 3, 1) := by decide +kernel
theorem dX9_cell_73 : decode cX9_cell 73 = .ok (.iastore, 1) := by decide +kernel
theorem dX9_cell_74 : decode cX9_cell 74 = .ok (.iload 5, 2) := by decide +kernel
theorem dX9_cell_76 : decode cX9_cell 76 = .ok (.ireturn, 1) := by decide +kernel
set_option maxRecDepth 20000 in
theorem ggX9_level_X9_within : GoodIn wsX9_level wsX9_within := goodIn_r _ [7] (by decide +kernel) (by decide +kernel)
set_option maxRecDepth 20000 in
theorem gX9_level_X9_within : GoodIn wsX9_level (va_wsS RX9 69 yX9_within wsX9_within) := goodIn_app (goodIn_of _ (by decide +kernel)) ggX9_level_X9_within
theorem dX9_level_0 : decode cX9_level 0 = .ok (.iload_n 1, 1) := by decide +kernel
theorem dX9_level_1 : decode cX9_level 1 = .ok (.iconst 0, 1) := by decide +kernel
theorem dX9_level_2 : decode cX9_level 2 = .ok (.bipush 7, 2) := by decide +kernel
theorem dX9_level_4 : decode cX9_level 4 = .ok (.invokestatic 69, 3) := by decide +kernel
theorem dX9_level_7 : decode cX9_level 7 = .ok (.ifCond .eq 24, 3) := by decide +kernel
theorem dX9_level_10 : decode cX9_level 10 = .ok (.iload_n 2, 1) := by decide +kernel
theorem dX9_level_11 : decode cX9_level 11 = .ok (.iconst 0, 1) := by decide +kernel
theorem dX9_level_12 : decode cX9_level 12 = .ok (.bipush 50, 2) := by decide +kernel
theorem dX9_level_14 : decode cX9_level 14 = .ok (.invokestatic 69, 3) := by decide +kernel
theorem dX9_level_17 : decode cX9_level 17 = .ok (.ifCond .eq 14, 3) := by decide +kernel
theorem dX9_level_20 : decode cX9_level 20 = .ok (.iload_n 3, 1) := by decide +kernel
theorem dX9_level_21 : decode cX9_level 21 = .ok (.iconst 0, 1) := by decide +kernel
theorem dX9_level_22 : decode cX9_level 22 = .ok (.sipush 500, 3) := by decide +kernel
theorem dX9_level_25 : decode cX9_level 25 = .ok (.invokestatic 69, 3) := by decide +kernel
theorem dX9_level_28 : decode cX9_level 28 = .ok (.ifCond .ne 6, 3) := by decide +kernel
theorem dX9_level_31 : decode cX9_level 31 = .ok (.bipush (-2), 2) := by decide +kernel
theorem dX9_level_33 : decode cX9_level 33 = .ok (.ireturn, 1) := by decide +kernel
theorem dX9_level_34 : decode cX9_level 34 = .ok (.aload_n 0, 1) := by decide +kernel
theorem dX9_level_35 : decode cX9_level 35 = .ok (.getfield 19, 3) := by decide +kernel
theorem dX9_level_38 : decode cX9_level 38 = .ok (.getfield 96, 3) := by decide +kernel
theorem dX9_level_41 : decode cX9_level 41 = .ok (.iload_n 1, 1) := by decide +kernel
theorem dX9_level_42 : decode cX9_level 42 = .ok (.iload_n 2, 1) := by decide +kernel
theorem dX9_level_43 : decode cX9_level 43 = .ok (.iastore, 1) := by decide +kernel
theorem dX9_level_44 : decode cX9_level 44 = .ok (.aload_n 0, 1) := by decide +kernel
theorem dX9_level_45 : decode cX9_level 45 = .ok (.getfield 19, 3) := by decide +kernel
theorem dX9_level_48 : decode cX9_level 48 = .ok (.getfield 99, 3) := by decide +kernel
theorem dX9_level_51 : decode cX9_level 51 = .ok (.iload_n 1, 1) := by decide +kernel
theorem dX9_level_52 : decode cX9_level 52 = .ok (.iload_n 3, 1) := by decide +kernel
theorem dX9_level_53 : decode cX9_level 53 = .ok (.iastore, 1) := by decide +kernel
theorem dX9_level_54 : decode cX9_level 54 = .ok (.iconst 1, 1) := by decide +kernel
theorem dX9_level_55 : decode cX9_level 55 = .ok (.ireturn, 1) := by decide +kernel
set_option maxRecDepth 20000 in
theorem ggX9_warmth_X9_within : GoodIn wsX9_warmth wsX9_within := goodIn_r _ [6] (by decide +kernel) (by decide +kernel)
set_option maxRecDepth 20000 in
theorem gX9_warmth_X9_within : GoodIn wsX9_warmth (va_wsS RX9 69 yX9_within wsX9_within) := goodIn_app (goodIn_of _ (by decide +kernel)) ggX9_warmth_X9_within
theorem dX9_warmth_0 : decode cX9_warmth 0 = .ok (.iload_n 1, 1) := by decide +kernel
theorem dX9_warmth_1 : decode cX9_warmth 1 = .ok (.iconst 0, 1) := by decide +kernel
theorem dX9_warmth_2 : decode cX9_warmth 2 = .ok (.bipush 23, 2) := by decide +kernel
theorem dX9_warmth_4 : decode cX9_warmth 4 = .ok (.invokestatic 69, 3) := by decide +kernel
theorem dX9_warmth_7 : decode cX9_warmth 7 = .ok (.ifCond .eq 14, 3) := by decide +kernel
theorem dX9_warmth_10 : decode cX9_warmth 10 = .ok (.iload_n 2, 1) := by decide +kernel
theorem dX9_warmth_11 : decode cX9_warmth 11 = .ok (.bipush (-20), 2) := by decide +kernel
theorem dX9_warmth_13 : decode cX9_warmth 13 = .ok (.bipush 20, 2) := by decide +kernel
theorem dX9_warmth_15 : decode cX9_warmth 15 = .ok (.invokestatic 69, 3) := by decide +kernel
theorem dX9_warmth_18 : decode cX9_warmth 18 = .ok (.ifCond .ne 7, 3) := by decide +kernel
theorem dX9_warmth_21 : decode cX9_warmth 21 = .ok (.sipush (-1000), 3) := by decide +kernel
theorem dX9_warmth_24 : decode cX9_warmth 24 = .ok (.ireturn, 1) := by decide +kernel
theorem dX9_warmth_25 : decode cX9_warmth 25 = .ok (.aload_n 0, 1) := by decide +kernel
theorem dX9_warmth_26 : decode cX9_warmth 26 = .ok (.getfield 19, 3) := by decide +kernel
theorem dX9_warmth_29 : decode cX9_warmth 29 = .ok (.getfield 102, 3) := by decide +kernel
theorem dX9_warmth_32 : decode cX9_warmth 32 = .ok (.iload_n 1, 1) := by decide +kernel
theorem dX9_warmth_33 : decode cX9_warmth 33 = .ok (.iaload, 1) := by decide +kernel
theorem dX9_warmth_34 : decode cX9_warmth 34 = .ok (.istore_n 3, 1) := by decide +kernel
theorem dX9_warmth_35 : decode cX9_warmth 35 = .ok (.aload_n 0, 1) := by decide +kernel
theorem dX9_warmth_36 : decode cX9_warmth 36 = .ok (.getfield 19, 3) := by decide +kernel
theorem dX9_warmth_39 : decode cX9_warmth 39 = .ok (.getfield 102, 3) := by decide +kernel
theorem dX9_warmth_42 : decode cX9_warmth 42 = .ok (.iload_n 1, 1) := by decide +kernel
theorem dX9_warmth_43 : decode cX9_warmth 43 = .ok (.iload_n 2, 1) := by decide +kernel
theorem dX9_warmth_44 : decode cX9_warmth 44 = .ok (.iastore, 1) := by decide +kernel
theorem dX9_warmth_45 : decode cX9_warmth 45 = .ok (.iload_n 3, 1) := by decide +kernel
theorem dX9_warmth_46 : decode cX9_warmth 46 = .ok (.ireturn, 1) := by decide +kernel
set_option maxRecDepth 20000 in
theorem ggX9_wind_X9_within : GoodIn wsX9_wind wsX9_within := goodIn_r _ [7] (by decide +kernel) (by decide +kernel)
set_option maxRecDepth 20000 in
theorem gX9_wind_X9_within : GoodIn wsX9_wind (va_wsS RX9 69 yX9_within wsX9_within) := goodIn_app (goodIn_of _ (by decide +kernel)) ggX9_wind_X9_within
set_option maxRecDepth 20000 in
theorem ggX9_wind_X8_put : GoodIn wsX9_wind wsX8_put := goodIn_r _ [12, 13, 14, 28, 29] (by decide +kernel) (by decide +kernel)
set_option maxRecDepth 20000 in
theorem gX9_wind_X8_put : GoodIn wsX9_wind (wsV RX9 108 RX8 yX8_put wsX8_put) := goodIn_app (goodIn_of _ (by decide +kernel)) ggX9_wind_X8_put
theorem dX9_wind_0 : decode cX9_wind 0 = .ok (.iload_n 2, 1) := by decide +kernel
theorem dX9_wind_1 : decode cX9_wind 1 = .ok (.iconst 1, 1) := by decide +kernel
theorem dX9_wind_2 : decode cX9_wind 2 = .ok (.bipush 7, 2) := by decide +kernel
theorem dX9_wind_4 : decode cX9_wind 4 = .ok (.invokestatic 69, 3) := by decide +kernel
theorem dX9_wind_7 : decode cX9_wind 7 = .ok (.ifCond .eq 24, 3) := by decide +kernel
theorem dX9_wind_10 : decode cX9_wind 10 = .ok (.iload_n 3, 1) := by decide +kernel
theorem dX9_wind_11 : decode cX9_wind 11 = .ok (.iconst 0, 1) := by decide +kernel
theorem dX9_wind_12 : decode cX9_wind 12 = .ok (.bipush 23, 2) := by decide +kernel
theorem dX9_wind_14 : decode cX9_wind 14 = .ok (.invokestatic 69, 3) := by decide +kernel
theorem dX9_wind_17 : decode cX9_wind 17 = .ok (.ifCond .eq 14, 3) := by decide +kernel
theorem dX9_wind_20 : decode cX9_wind 20 = .ok (.iload 4, 2) := by decide +kernel
theorem dX9_wind_22 : decode cX9_wind 22 = .ok (.iload_n 3, 1) := by decide +kernel
theorem dX9_wind_23 : decode cX9_wind 23 = .ok (.bipush 23, 2) := by decide +kernel
theorem dX9_wind_25 : decode cX9_wind 25 = .ok (.invokestatic 69, 3) := by decide +kernel
theorem dX9_wind_28 : decode cX9_wind 28 = .ok (.ifCond .ne 6, 3) := by decide +kernel
theorem dX9_wind_31 : decode cX9_wind 31 = .ok (.bipush (-2), 2) := by decide +kernel
theorem dX9_wind_33 : decode cX9_wind 33 = .ok (.ireturn, 1) := by decide +kernel
theorem dX9_wind_34 : decode cX9_wind 34 = .ok (.iload 5, 2) := by decide +kernel
theorem dX9_wind_36 : decode cX9_wind 36 = .ok (.bipush (-2), 2) := by decide +kernel
theorem dX9_wind_38 : decode cX9_wind 38 = .ok (.iconst 2, 1) := by decide +kernel
theorem dX9_wind_39 : decode cX9_wind 39 = .ok (.invokestatic 69, 3) := by decide +kernel
theorem dX9_wind_42 : decode cX9_wind 42 = .ok (.ifCond .eq 14, 3) := by decide +kernel
theorem dX9_wind_45 : decode cX9_wind 45 = .ok (.iload 6, 2) := by decide +kernel
theorem dX9_wind_47 : decode cX9_wind 47 = .ok (.bipush (-2), 2) := by decide +kernel
theorem dX9_wind_49 : decode cX9_wind 49 = .ok (.iconst 2, 1) := by decide +kernel
theorem dX9_wind_50 : decode cX9_wind 50 = .ok (.invokestatic 69, 3) := by decide +kernel
theorem dX9_wind_53 : decode cX9_wind 53 = .ok (.ifCond .ne 6, 3) := by decide +kernel
theorem dX9_wind_56 : decode cX9_wind 56 = .ok (.bipush (-2), 2) := by decide +kernel
theorem dX9_wind_58 : decode cX9_wind 58 = .ok (.ireturn, 1) := by decide +kernel
theorem dX9_wind_59 : decode cX9_wind 59 = .ok (.iload_n 1, 1) := by decide +kernel
theorem dX9_wind_60 : decode cX9_wind 60 = .ok (.ifCond .eq 13, 3) := by decide +kernel
theorem dX9_wind_63 : decode cX9_wind 63 = .ok (.aload_n 0, 1) := by decide +kernel
theorem dX9_wind_64 : decode cX9_wind 64 = .ok (.getfield 19, 3) := by decide +kernel
theorem dX9_wind_67 : decode cX9_wind 67 = .ok (.getfield 48, 3) := by decide +kernel
theorem dX9_wind_70 : decode cX9_wind 70 = .ok (.goto 10, 3) := by decide +kernel
theorem dX9_wind_73 : decode cX9_wind 73 = .ok (.aload_n 0, 1) := by decide +kernel
theorem dX9_wind_74 : decode cX9_wind 74 = .ok (.getfield 19, 3) := by decide +kernel
theorem dX9_wind_77 : decode cX9_wind 77 = .ok (.getfield 105, 3) := by decide +kernel
theorem dX9_wind_80 : decode cX9_wind 80 = .ok (.astore 7, 2) := by decide +kernel
theorem dX9_wind_82 : decode cX9_wind 82 = .ok (.iload_n 3, 1) := by decide +kernel
theorem dX9_wind_83 : decode cX9_wind 83 = .ok (.istore 8, 2) := by decide +kernel
theorem dX9_wind_85 : decode cX9_wind 85 = .ok (.iload 8, 2) := by decide +kernel
theorem dX9_wind_87 : decode cX9_wind 87 = .ok (.iload 4, 2) := by decide +kernel
theorem dX9_wind_89 : decode cX9_wind 89 = .ok (.if_icmp .gt 21, 3) := by decide +kernel
theorem dX9_wind_92 : decode cX9_wind 92 = .ok (.aload 7, 2) := by decide +kernel
theorem dX9_wind_94 : decode cX9_wind 94 = .ok (.iload_n 2, 1) := by decide +kernel
theorem dX9_wind_95 : decode cX9_wind 95 = .ok (.iload 8, 2) := by decide +kernel
theorem dX9_wind_97 : decode cX9_wind 97 = .ok (.iload 5, 2) := by decide +kernel
theorem dX9_wind_99 : decode cX9_wind 99 = .ok (.iload 6, 2) := by decide +kernel
theorem dX9_wind_101 : decode cX9_wind 101 = .ok (.invokevirtual 108, 3) := by decide +kernel
theorem dX9_wind_104 : decode cX9_wind 104 = .ok (.iinc 8 1, 3) := by decide +kernel
theorem dX9_wind_107 : decode cX9_wind 107 = .ok (.goto (-22), 3) := by decide +kernel
theorem dX9_wind_110 : decode cX9_wind 110 = .ok (.iconst 1, 1) := by decide +kernel
theorem dX9_wind_111 : decode cX9_wind 111 = .ok (.ireturn, 1) := by decide +kernel
set_option maxRecDepth 20000 in
theorem ggX9_fly_X5_has : GoodIn wsX9_fly wsX5_has := goodIn_r _ [9, 10, 11, 12, 13, 14, 53, 54, 55] (by decide +kernel) (by decide +kernel)
set_option maxRecDepth 20000 in
theorem gX9_fly_X5_has : GoodIn wsX9_fly (wsV RX9 80 RX5 yX5_has wsX5_has) := goodIn_app (goodIn_of _ (by decide +kernel)) ggX9_fly_X5_has
set_option maxRecDepth 20000 in
theorem ggX9_fly_X9_within : GoodIn wsX9_fly wsX9_within := goodIn_r _ [14] (by decide +kernel) (by decide +kernel)
set_option maxRecDepth 20000 in
theorem gX9_fly_X9_within : GoodIn wsX9_fly (va_wsS RX9 69 yX9_within wsX9_within) := goodIn_app (goodIn_of _ (by decide +kernel)) ggX9_fly_X9_within
set_option maxRecDepth 20000 in
theorem ggX9_fly_X9_cellOf : GoodIn wsX9_fly wsX9_cellOf := goodIn_r _ [18] (by decide +kernel) (by decide +kernel)
set_option maxRecDepth 20000 in
theorem gX9_fly_X9_cellOf : GoodIn wsX9_fly (va_wsS RX9 84 yX9_cellOf wsX9_cellOf) := goodIn_app (goodIn_of _ (by decide +kernel)) ggX9_fly_X9_cellOf
set_option maxRecDepth 20000 in
theorem ggX9_fly_X3_begin : GoodIn wsX9_fly wsX3_begin := goodIn_r _ [23, 24, 25, 26, 27, 28, 29, 30, 31, 32, 33, 34, 35, 36, 37, 38, 39, 22, 40, 41, 42, 43, 13, 44, 56, 57, 58, 59, 60, 61, 62, 63, 64, 65, 66, 67, 68, 69, 70] (by decide +kernel) (by decide +kernel)
set_option maxRecDepth 20000 in
theorem gX9_fly_X3_begin : GoodIn wsX9_fly (wsV RX9 114 RX3 yX3_begin wsX3_begin) := goodIn_app (goodIn_of _ (by decide +kernel)) ggX9_fly_X3_begin
theorem dX9_fly_0 : decode cX9_fly 0 = .ok (.aload_n 0, 1) := by decide +kernel
theorem dX9_fly_1 : decode cX9_fly 1 = .ok (.getfield 12, 3) := by decide +kernel
theorem dX9_fly_4 : decode cX9_fly 4 = .ok (.iload_n 1, 1) := by decide +kernel
theorem dX9_fly_5 : decode cX9_fly 5 = .ok (.iload_n 2, 1) := by decide +kernel
theorem dX9_fly_6 : decode cX9_fly 6 = .ok (.invokevirtual 80, 3) := by decide +kernel
theorem dX9_fly_9 : decode cX9_fly 9 = .ok (.ifCond .eq 25, 3) := by decide +kernel
theorem dX9_fly_12 : decode cX9_fly 12 = .ok (.iload_n 3, 1) := by decide +kernel
theorem dX9_fly_13 : decode cX9_fly 13 = .ok (.iconst 0, 1) := by decide +kernel
theorem dX9_fly_14 : decode cX9_fly 14 = .ok (.bipush 23, 2) := by decide +kernel
theorem dX9_fly_16 : decode cX9_fly 16 = .ok (.invokestatic 69, 3) := by decide +kernel
theorem dX9_fly_19 : decode cX9_fly 19 = .ok (.ifCond .eq 15, 3) := by decide +kernel
theorem dX9_fly_22 : decode cX9_fly 22 = .ok (.iload 4, 2) := by decide +kernel
theorem dX9_fly_24 : decode cX9_fly 24 = .ok (.iconst 1, 1) := by decide +kernel
theorem dX9_fly_25 : decode cX9_fly 25 = .ok (.sipush 200, 3) := by decide +kernel
theorem dX9_fly_28 : decode cX9_fly 28 = .ok (.invokestatic 69, 3) := by decide +kernel
theorem dX9_fly_31 : decode cX9_fly 31 = .ok (.ifCond .ne 6, 3) := by decide +kernel
theorem dX9_fly_34 : decode cX9_fly 34 = .ok (.bipush (-2), 2) := by decide +kernel
theorem dX9_fly_36 : decode cX9_fly 36 = .ok (.ireturn, 1) := by decide +kernel
theorem dX9_fly_37 : decode cX9_fly 37 = .ok (.iload 5, 2) := by decide +kernel
theorem dX9_fly_39 : decode cX9_fly 39 = .ok (.iconst 0, 1) := by decide +kernel
theorem dX9_fly_40 : decode cX9_fly 40 = .ok (.sipush 500, 3) := by decide +kernel
theorem dX9_fly_43 : decode cX9_fly 43 = .ok (.invokestatic 69, 3) := by decide +kernel
theorem dX9_fly_46 : decode cX9_fly 46 = .ok (.ifCond .eq 15, 3) := by decide +kernel
theorem dX9_fly_49 : decode cX9_fly 49 = .ok (.iload 6, 2) := by decide +kernel
theorem dX9_fly_51 : decode cX9_fly 51 = .ok (.iconst 0, 1) := by decide +kernel
theorem dX9_fly_52 : decode cX9_fly 52 = .ok (.sipush 200, 3) := by decide +kernel
theorem dX9_fly_55 : decode cX9_fly 55 = .ok (.invokestatic 69, 3) := by decide +kernel
theorem dX9_fly_58 : decode cX9_fly 58 = .ok (.ifCond .ne 6, 3) := by decide +kernel
theorem dX9_fly_61 : decode cX9_fly 61 = .ok (.bipush (-2), 2) := by decide +kernel
theorem dX9_fly_63 : decode cX9_fly 63 = .ok (.ireturn, 1) := by decide +kernel
theorem dX9_fly_64 : decode cX9_fly 64 = .ok (.iload_n 1, 1) := by decide +kernel
theorem dX9_fly_65 : decode cX9_fly 65 = .ok (.iload_n 2, 1) := by decide +kernel
theorem dX9_fly_66 : decode cX9_fly 66 = .ok (.invokestatic 84, 3) := by decide +kernel
theorem dX9_fly_69 : decode cX9_fly 69 = .ok (.istore 7, 2) := by decide +kernel
theorem dX9_fly_71 : decode cX9_fly 71 = .ok (.aload_n 0, 1) := by decide +kernel
theorem dX9_fly_72 : decode cX9_fly 72 = .ok (.getfield 12, 3) := by decide +kernel
theorem dX9_fly_75 : decode cX9_fly 75 = .ok (.getfield 92, 3) := by decide +kernel
theorem dX9_fly_78 : decode cX9_fly 78 = .ok (.iload 7, 2) := by decide +kernel
theorem dX9_fly_80 : decode cX9_fly 80 = .ok (.iaload, 1) := by decide +kernel
theorem dX9_fly_81 : decode cX9_fly 81 = .ok (.iconst 2, 1) := by decide +kernel
theorem dX9_fly_82 : decode cX9_fly 82 = .ok (.if_icmp .ne 6, 3) := by decide +kernel
theorem dX9_fly_85 : decode cX9_fly 85 = .ok (.bipush (-3), 2) := by decide +kernel
theorem dX9_fly_87 : decode cX9_fly 87 = .ok (.ireturn, 1) := by decide +kernel
theorem dX9_fly_88 : decode cX9_fly 88 = .ok (.aload_n 0, 1) := by decide +kernel
theorem dX9_fly_89 : decode cX9_fly 89 = .ok (.getfield 33, 3) := by decide +kernel
theorem dX9_fly_92 : decode cX9_fly 92 = .ok (.bipush 8, 2) := by decide +kernel
theorem dX9_fly_94 : decode cX9_fly 94 = .ok (.if_icmp .lt 6, 3) := by decide +kernel
theorem dX9_fly_97 : decode cX9_fly 97 = .ok (.bipush (-4), 2) := by decide +kernel
theorem dX9_fly_99 : decode cX9_fly 99 = .ok (.ireturn, 1) := by decide +kernel
theorem dX9_fly_100 : decode cX9_fly 100 = .ok (.aload_n 0, 1) := by decide +kernel
theorem dX9_fly_101 : decode cX9_fly 101 = .ok (.getfield 25, 3) := by decide +kernel
theorem dX9_fly_104 : decode cX9_fly 104 = .ok (.aload_n 0, 1) := by decide +kernel
theorem dX9_fly_105 : decode cX9_fly 105 = .ok (.getfield 33, 3) := by decide +kernel
theorem dX9_fly_108 : decode cX9_fly 108 = .ok (.aaload, 1) := by decide +kernel
theorem dX9_fly_109 : decode cX9_fly 109 = .ok (.iload 7, 2) := by decide +kernel
theorem dX9_fly_111 : decode cX9_fly 111 = .ok (.iload_n 3, 1) := by decide +kernel
theorem dX9_fly_112 : decode cX9_fly 112 = .ok (.iload 4, 2) := by decide +kernel
theorem dX9_fly_114 : decode cX9_fly 114 = .ok (.iload 5, 2) := by decide +kernel
theorem dX9_fly_116 : decode cX9_fly 116 = .ok (.iload 6, 2) := by decide +kernel
theorem dX9_fly_118 : decode cX9_fly 118 = .ok (.invokevirtual 114, 3) := by decide +kernel
theorem dX9_fly_121 : decode cX9_fly 121 = .ok (.aload_n 0, 1) := by decide +kernel
theorem dX9_fly_122 : decode cX9_fly 122 = .ok (.dup, 1) := by decide +kernel
theorem dX9_fly_123 : decode cX9_fly 123 = .ok (.getfield 33, 3) := by decide +kernel
theorem dX9_fly_126 : decode cX9_fly 126 = .ok (.iconst 1, 1) := by decide +kernel
theorem dX9_fly_127 : decode cX9_fly 127 = .ok (.iadd, 1) := by decide +kernel
theorem dX9_fly_128 : decode cX9_fly 128 = .ok (.putfield 33, 3) := by decide +kernel
theorem dX9_fly_131 : decode cX9_fly 131 = .ok (.aload_n 0, 1) := by decide +kernel
theorem dX9_fly_132 : decode cX9_fly 132 = .ok (.getfield 33, 3) := by decide +kernel
theorem dX9_fly_135 : decode cX9_fly 135 = .ok (.iconst 1, 1) := by decide +kernel
theorem dX9_fly_136 : decode cX9_fly 136 = .ok (.isub, 1) := by decide +kernel
theorem dX9_fly_137 : decode cX9_fly 137 = .ok (.ireturn, 1) := by decide +kernel
set_option maxRecDepth 20000 in
theorem ggX9_go_X9_isFlight : GoodIn wsX9_go wsX9_isFlight := goodIn_r _ [12, 13, 14, 15, 11, 16, 97, 98, 99, 100, 101, 102, 103, 104] (by decide +kernel) (by decide +kernel)
set_option maxRecDepth 20000 in
theorem gX9_go_X9_isFlight : GoodIn wsX9_go (wsV RX9 118 RX9 yX9_isFlight wsX9_isFlight) := goodIn_app (goodIn_of _ (by decide +kernel)) ggX9_go_X9_isFlight
set_option maxRecDepth 20000 in
theorem ggX9_go_X9_within : GoodIn wsX9_go wsX9_within := goodIn_r _ [16] (by decide +kernel) (by decide +kernel)
set_option maxRecDepth 20000 in
theorem gX9_go_X9_within : GoodIn wsX9_go (va_wsS RX9 69 yX9_within wsX9_within) := goodIn_app (goodIn_of _ (by decide +kernel)) ggX9_go_X9_within
set_option maxRecDepth 20000 in
theorem ggX9_go_X1_pass : GoodIn wsX9_go wsX1_pass := goodIn_r _ [21, 22, 23, 24, 25, 26, 27, 28, 29, 20, 30, 31, 32, 33, 34, 35, 36, 37, 38, 39, 40, 41, 42, 43, 44, 45, 46, 47, 48, 49, 50, 51, 52, 53, 54, 55, 56, 57, 58, 59, 60, 61, 62, 63, 64, 65, 66, 67, 68, 69, 70, 71, 72, 11, 73, 74, 75, 76, 77, 78, 79, 80, 81, 15, 16, 82, 83, 120, 121, 122, 123, 124, 112, 113, 114, 115, 116, 117, 118, 119, 125, 126, 127, 128, 129] (by decide +kernel) (by decide +kernel)
set_option maxRecDepth 20000 in
theorem gX9_go_X1_pass : GoodIn wsX9_go (wsV RX9 134 RX1 yX1_pass wsX1_pass) := goodIn_app (goodIn_of _ (by decide +kernel)) ggX9_go_X1_pass
set_option maxRecDepth 20000 in
theorem ggX9_go_X3_writeDown : GoodIn wsX9_go wsX3_writeDown := goodIn_r _ [88, 89, 90, 91, 92, 93, 94, 95, 11, 96, 105, 106, 107, 108, 109, 110, 111, 112, 113, 114, 115, 116, 117, 118, 119] (by decide +kernel) (by decide +kernel)
set_option maxRecDepth 20000 in
theorem gX9_go_X3_writeDown : GoodIn wsX9_go (wsV RX9 138 RX3 yX3_writeDown wsX3_writeDown) := goodIn_app (goodIn_of _ (by decide +kernel)) ggX9_go_X3_writeDown
theorem dX9_go_0 : decode cX9_go 0 = .ok (.aload_n 0, 1) := by decide +kernel
theorem dX9_go_1 : decode cX9_go 1 = .ok (.iload_n 1, 1) := by decide +kernel
theorem dX9_go_2 : decode cX9_go 2 = .ok (.invokevirtual 118, 3) := by decide +kernel
theorem dX9_go_5 : decode cX9_go 5 = .ok (.ifCond .eq 12, 3) := by decide +kernel
theorem dX9_go_8 : decode cX9_go 8 = .ok (.iload_n 2, 1) := by decide +kernel
theorem dX9_go_9 : decode cX9_go 9 = .ok (.iconst 0, 1) := by decide +kernel
theorem dX9_go_10 : decode cX9_go 10 = .ok (.iconst 2, 1) := by decide +kernel
theorem dX9_go_11 : decode cX9_go 11 = .ok (.invokestatic 69, 3) := by decide +kernel
theorem dX9_go_14 : decode cX9_go 14 = .ok (.ifCond .ne 6, 3) := by decide +kernel
theorem dX9_go_17 : decode cX9_go 17 = .ok (.bipush (-2), 2) := by decide +kernel
theorem dX9_go_19 : decode cX9_go 19 = .ok (.ireturn, 1) := by decide +kernel
theorem dX9_go_20 : decode cX9_go 20 = .ok (.iload_n 3, 1) := by decide +kernel
theorem dX9_go_21 : decode cX9_go 21 = .ok (.iconst 1, 1) := by decide +kernel
theorem dX9_go_22 : decode cX9_go 22 = .ok (.bipush 50, 2) := by decide +kernel
theorem dX9_go_24 : decode cX9_go 24 = .ok (.invokestatic 69, 3) := by decide +kernel
theorem dX9_go_27 : decode cX9_go 27 = .ok (.ifCond .eq 14, 3) := by decide +kernel
theorem dX9_go_30 : decode cX9_go 30 = .ok (.iload 4, 2) := by decide +kernel
theorem dX9_go_32 : decode cX9_go 32 = .ok (.iconst 1, 1) := by decide +kernel
theorem dX9_go_33 : decode cX9_go 33 = .ok (.bipush 12, 2) := by decide +kernel
theorem dX9_go_35 : decode cX9_go 35 = .ok (.invokestatic 69, 3) := by decide +kernel
theorem dX9_go_38 : decode cX9_go 38 = .ok (.ifCond .ne 6, 3) := by decide +kernel
theorem dX9_go_41 : decode cX9_go 41 = .ok (.bipush (-2), 2) := by decide +kernel
theorem dX9_go_43 : decode cX9_go 43 = .ok (.ireturn, 1) := by decide +kernel
theorem dX9_go_44 : decode cX9_go 44 = .ok (.aload_n 0, 1) := by decide +kernel
theorem dX9_go_45 : decode cX9_go 45 = .ok (.getfield 25, 3) := by decide +kernel
theorem dX9_go_48 : decode cX9_go 48 = .ok (.iload_n 1, 1) := by decide +kernel
theorem dX9_go_49 : decode cX9_go 49 = .ok (.aaload, 1) := by decide +kernel
theorem dX9_go_50 : decode cX9_go 50 = .ok (.astore 5, 2) := by decide +kernel
theorem dX9_go_52 : decode cX9_go 52 = .ok (.aload 5, 2) := by decide +kernel
theorem dX9_go_54 : decode cX9_go 54 = .ok (.getfield 121, 3) := by decide +kernel
theorem dX9_go_57 : decode cX9_go 57 = .ok (.getfield 125, 3) := by decide +kernel
theorem dX9_go_60 : decode cX9_go 60 = .ok (.ifCond .eq 6, 3) := by decide +kernel
theorem dX9_go_63 : decode cX9_go 63 = .ok (.bipush (-3), 2) := by decide +kernel
theorem dX9_go_65 : decode cX9_go 65 = .ok (.ireturn, 1) := by decide +kernel
theorem dX9_go_66 : decode cX9_go 66 = .ok (.aload 5, 2) := by decide +kernel
theorem dX9_go_68 : decode cX9_go 68 = .ok (.getfield 131, 3) := by decide +kernel
theorem dX9_go_71 : decode cX9_go 71 = .ok (.iload 4, 2) := by decide +kernel
theorem dX9_go_73 : decode cX9_go 73 = .ok (.iadd, 1) := by decide +kernel
theorem dX9_go_74 : decode cX9_go 74 = .ok (.bipush 60, 2) := by decide +kernel
theorem dX9_go_76 : decode cX9_go 76 = .ok (.if_icmp .le 6, 3) := by decide +kernel
theorem dX9_go_79 : decode cX9_go 79 = .ok (.bipush (-4), 2) := by decide +kernel
theorem dX9_go_81 : decode cX9_go 81 = .ok (.ireturn, 1) := by decide +kernel
theorem dX9_go_82 : decode cX9_go 82 = .ok (.iconst 0, 1) := by decide +kernel
theorem dX9_go_83 : decode cX9_go 83 = .ok (.istore 6, 2) := by decide +kernel
theorem dX9_go_85 : decode cX9_go 85 = .ok (.iload 6, 2) := by decide +kernel
theorem dX9_go_87 : decode cX9_go 87 = .ok (.iload 4, 2) := by decide +kernel
theorem dX9_go_89 : decode cX9_go 89 = .ok (.if_icmp .ge 50, 3) := by decide +kernel
theorem dX9_go_92 : decode cX9_go 92 = .ok (.aload 5, 2) := by decide +kernel
theorem dX9_go_94 : decode cX9_go 94 = .ok (.getfield 121, 3) := by decide +kernel
theorem dX9_go_97 : decode cX9_go 97 = .ok (.getfield 125, 3) := by decide +kernel
theorem dX9_go_100 : decode cX9_go 100 = .ok (.ifCond .ne 39, 3) := by decide +kernel
theorem dX9_go_103 : decode cX9_go 103 = .ok (.aload 5, 2) := by decide +kernel
theorem dX9_go_105 : decode cX9_go 105 = .ok (.getfield 121, 3) := by decide +kernel
theorem dX9_go_108 : decode cX9_go 108 = .ok (.iload_n 2, 1) := by decide +kernel
theorem dX9_go_109 : decode cX9_go 109 = .ok (.iload_n 3, 1) := by decide +kernel
theorem dX9_go_110 : decode cX9_go 110 = .ok (.aload_n 0, 1) := by decide +kernel
theorem dX9_go_111 : decode cX9_go 111 = .ok (.getfield 19, 3) := by decide +kernel
theorem dX9_go_114 : decode cX9_go 114 = .ok (.aload_n 0, 1) := by decide +kernel
theorem dX9_go_115 : decode cX9_go 115 = .ok (.getfield 19, 3) := by decide +kernel
theorem dX9_go_118 : decode cX9_go 118 = .ok (.getfield 48, 3) := by decide +kernel
theorem dX9_go_121 : decode cX9_go 121 = .ok (.aload_n 0, 1) := by decide +kernel
theorem dX9_go_122 : decode cX9_go 122 = .ok (.getfield 12, 3) := by decide +kernel
theorem dX9_go_125 : decode cX9_go 125 = .ok (.invokevirtual 134, 3) := by decide +kernel
theorem dX9_go_128 : decode cX9_go 128 = .ok (.aload 5, 2) := by decide +kernel
theorem dX9_go_130 : decode cX9_go 130 = .ok (.invokevirtual 138, 3) := by decide +kernel
theorem dX9_go_133 : decode cX9_go 133 = .ok (.iinc 6 1, 3) := by decide +kernel
theorem dX9_go_136 : decode cX9_go 136 = .ok (.goto (-51), 3) := by decide +kernel
theorem dX9_go_139 : decode cX9_go 139 = .ok (.iload 6, 2) := by decide +kernel
theorem dX9_go_141 : decode cX9_go 141 = .ok (.ireturn, 1) := by decide +kernel
set_option maxRecDepth 20000 in
theorem ggX9_about_X9_isFlight : GoodIn wsX9_about wsX9_isFlight := goodIn_r _ [17, 18, 19, 20, 16, 21, 44, 45, 46, 47, 48, 49, 50, 51] (by decide +kernel) (by decide +kernel)
set_option maxRecDepth 20000 in
theorem gX9_about_X9_isFlight : GoodIn wsX9_about (wsV RX9 118 RX9 yX9_isFlight wsX9_isFlight) := goodIn_app (goodIn_of _ (by decide +kernel)) ggX9_about_X9_isFlight
set_option maxRecDepth 20000 in
theorem ggX9_about_X9_xOf : GoodIn wsX9_about wsX9_xOf := goodIn_r _ [24] (by decide +kernel) (by decide +kernel)
set_option maxRecDepth 20000 in
theorem gX9_about_X9_xOf : GoodIn wsX9_about (va_wsS RX9 145 yX9_xOf wsX9_xOf) := goodIn_app (goodIn_of _ (by decide +kernel)) ggX9_about_X9_xOf
set_option maxRecDepth 20000 in
theorem ggX9_about_X9_yOf : GoodIn wsX9_about wsX9_yOf := goodIn_r _ [27] (by decide +kernel) (by decide +kernel)
set_option maxRecDepth 20000 in
theorem gX9_about_X9_yOf : GoodIn wsX9_about (va_wsS RX9 149 yX9_yOf wsX9_yOf) := goodIn_app (goodIn_of _ (by decide +kernel)) ggX9_about_X9_yOf
set_option maxRecDepth 20000 in
theorem ggX9_about_X1_liftLessWeight : GoodIn wsX9_about wsX1_liftLessWeight := goodIn_r _ [32, 33, 34, 35, 36, 37, 38, 39, 40, 41, 31, 42, 43, 59, 60, 61, 62, 63, 64, 65, 66, 67, 68, 69, 70, 71] (by decide +kernel) (by decide +kernel)

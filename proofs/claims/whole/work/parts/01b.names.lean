set_option maxRecDepth 20000 in
theorem ggX0_init_X8_init : GoodIn wsX0_init wsX8_init := goodIn_r _ [14, 15, 2, 3, 4, 16, 17, 23, 24] (by decide +kernel) (by decide +kernel)
set_option maxRecDepth 20000 in
theorem gX0_init_X8_init_n23 : GoodIn wsX0_init (wsX8_init) := ggX0_init_X8_init
theorem dX0_init_0 : decode cX0_init 0 = .ok (.aload_n 0, 1) := by decide +kernel
theorem dX0_init_1 : decode cX0_init 1 = .ok (.invokespecial 3, 3) := by decide +kernel
theorem dX0_init_4 : decode cX0_init 4 = .ok (.aload_n 0, 1) := by decide +kernel
theorem dX0_init_5 : decode cX0_init 5 = .ok (.bipush 8, 2) := by decide +kernel
theorem dX0_init_7 : decode cX0_init 7 = .ok (.newarray .int, 2) := by decide +kernel
theorem dX0_init_9 : decode cX0_init 9 = .ok (.putfield 9, 3) := by decide +kernel
theorem dX0_init_12 : decode cX0_init 12 = .ok (.aload_n 0, 1) := by decide +kernel
theorem dX0_init_13 : decode cX0_init 13 = .ok (.bipush 8, 2) := by decide +kernel
theorem dX0_init_15 : decode cX0_init 15 = .ok (.newarray .int, 2) := by decide +kernel
theorem dX0_init_17 : decode cX0_init 17 = .ok (.putfield 15, 3) := by decide +kernel
theorem dX0_init_20 : decode cX0_init 20 = .ok (.aload_n 0, 1) := by decide +kernel
theorem dX0_init_21 : decode cX0_init 21 = .ok (.bipush 24, 2) := by decide +kernel
theorem dX0_init_23 : decode cX0_init 23 = .ok (.newarray .int, 2) := by decide +kernel
theorem dX0_init_25 : decode cX0_init 25 = .ok (.putfield 18, 3) := by decide +kernel
theorem dX0_init_28 : decode cX0_init 28 = .ok (.aload_n 0, 1) := by decide +kernel
theorem dX0_init_29 : decode cX0_init 29 = .ok (.new 21, 3) := by decide +kernel
theorem dX0_init_32 : decode cX0_init 32 = .ok (.dup, 1) := by decide +kernel
theorem dX0_init_33 : decode cX0_init 33 = .ok (.invokespecial 23, 3) := by decide +kernel
theorem dX0_init_36 : decode cX0_init 36 = .ok (.putfield 24, 3) := by decide +kernel
theorem dX0_init_39 : decode cX0_init 39 = .ok (.aload_n 0, 1) := by decide +kernel
theorem dX0_init_40 : decode cX0_init 40 = .ok (.new 21, 3) := by decide +kernel
theorem dX0_init_43 : decode cX0_init 43 = .ok (.dup, 1) := by decide +kernel
theorem dX0_init_44 : decode cX0_init 44 = .ok (.invokespecial 23, 3) := by decide +kernel
theorem dX0_init_47 : decode cX0_init 47 = .ok (.putfield 28, 3) := by decide +kernel
theorem dX0_init_50 : decode cX0_init 50 = .ok (.iconst 0, 1) := by decide +kernel
theorem dX0_init_51 : decode cX0_init 51 = .ok (.istore_n 1, 1) := by decide +kernel
theorem dX0_init_52 : decode cX0_init 52 = .ok (.iload_n 1, 1) := by decide +kernel
theorem dX0_init_53 : decode cX0_init 53 = .ok (.bipush 8, 2) := by decide +kernel
theorem dX0_init_55 : decode cX0_init 55 = .ok (.if_icmp .ge 28, 3) := by decide +kernel
theorem dX0_init_58 : decode cX0_init 58 = .ok (.aload_n 0, 1) := by decide +kernel
theorem dX0_init_59 : decode cX0_init 59 = .ok (.getfield 9, 3) := by decide +kernel
theorem dX0_init_62 : decode cX0_init 62 = .ok (.iload_n 1, 1) := by decide +kernel
theorem dX0_init_63 : decode cX0_init 63 = .ok (.bipush 14, 2) := by decide +kernel
theorem dX0_init_65 : decode cX0_init 65 = .ok (.iload_n 1, 1) := by decide +kernel
theorem dX0_init_66 : decode cX0_init 66 = .ok (.isub, 1) := by decide +kernel
theorem dX0_init_67 : decode cX0_init 67 = .ok (.iastore, 1) := by decide +kernel
theorem dX0_init_68 : decode cX0_init 68 = .ok (.aload_n 0, 1) := by decide +kernel
theorem dX0_init_69 : decode cX0_init 69 = .ok (.getfield 15, 3) := by decide +kernel
theorem dX0_init_72 : decode cX0_init 72 = .ok (.iload_n 1, 1) := by decide +kernel
theorem dX0_init_73 : decode cX0_init 73 = .ok (.sipush 500, 3) := by decide +kernel
theorem dX0_init_76 : decode cX0_init 76 = .ok (.iastore, 1) := by decide +kernel
theorem dX0_init_77 : decode cX0_init 77 = .ok (.iinc 1 1, 3) := by decide +kernel
theorem dX0_init_80 : decode cX0_init 80 = .ok (.goto (-28), 3) := by decide +kernel
theorem dX0_init_83 : decode cX0_init 83 = .ok (.return_, 1) := by decide +kernel
theorem dX1_init_0 : decode cX1_init 0 = .ok (.aload_n 0, 1) := by decide +kernel
theorem dX1_init_1 : decode cX1_init 1 = .ok (.invokespecial 3, 3) := by decide +kernel
theorem dX1_init_4 : decode cX1_init 4 = .ok (.return_, 1) := by decide +kernel
theorem dX1_copyOf_0 : decode cX1_copyOf 0 = .ok (.aload_n 0, 1) := by decide +kernel
theorem dX1_copyOf_1 : decode cX1_copyOf 1 = .ok (.aload_n 1, 1) := by decide +kernel
theorem dX1_copyOf_2 : decode cX1_copyOf 2 = .ok (.getfield 9, 3) := by decide +kernel
theorem dX1_copyOf_5 : decode cX1_copyOf 5 = .ok (.putfield 9, 3) := by decide +kernel
theorem dX1_copyOf_8 : decode cX1_copyOf 8 = .ok (.aload_n 0, 1) := by decide +kernel
theorem dX1_copyOf_9 : decode cX1_copyOf 9 = .ok (.aload_n 1, 1) := by decide +kernel
theorem dX1_copyOf_10 : decode cX1_copyOf 10 = .ok (.getfield 15, 3) := by decide +kernel
theorem dX1_copyOf_13 : decode cX1_copyOf 13 = .ok (.putfield 15, 3) := by decide +kernel
theorem dX1_copyOf_16 : decode cX1_copyOf 16 = .ok (.aload_n 0, 1) := by decide +kernel
theorem dX1_copyOf_17 : decode cX1_copyOf 17 = .ok (.aload_n 1, 1) := by decide +kernel
theorem dX1_copyOf_18 : decode cX1_copyOf 18 = .ok (.getfield 18, 3) := by decide +kernel
theorem dX1_copyOf_21 : decode cX1_copyOf 21 = .ok (.putfield 18, 3) := by decide +kernel
theorem dX1_copyOf_24 : decode cX1_copyOf 24 = .ok (.aload_n 0, 1) := by decide +kernel
theorem dX1_copyOf_25 : decode cX1_copyOf 25 = .ok (.aload_n 1, 1) := by decide +kernel
theorem dX1_copyOf_26 : decode cX1_copyOf 26 = .ok (.getfield 21, 3) := by decide +kernel
theorem dX1_copyOf_29 : decode cX1_copyOf 29 = .ok (.putfield 21, 3) := by decide +kernel
theorem dX1_copyOf_32 : decode cX1_copyOf 32 = .ok (.aload_n 0, 1) := by decide +kernel
theorem dX1_copyOf_33 : decode cX1_copyOf 33 = .ok (.aload_n 1, 1) := by decide +kernel
theorem dX1_copyOf_34 : decode cX1_copyOf 34 = .ok (.getfield 24, 3) := by decide +kernel
theorem dX1_copyOf_37 : decode cX1_copyOf 37 = .ok (.putfield 24, 3) := by decide +kernel
theorem dX1_copyOf_40 : decode cX1_copyOf 40 = .ok (.aload_n 0, 1) := by decide +kernel
theorem dX1_copyOf_41 : decode cX1_copyOf 41 = .ok (.aload_n 1, 1) := by decide +kernel
theorem dX1_copyOf_42 : decode cX1_copyOf 42 = .ok (.getfield 27, 3) := by decide +kernel
theorem dX1_copyOf_45 : decode cX1_copyOf 45 = .ok (.putfield 27, 3) := by decide +kernel
theorem dX1_copyOf_48 : decode cX1_copyOf 48 = .ok (.aload_n 0, 1) := by decide +kernel
theorem dX1_copyOf_49 : decode cX1_copyOf 49 = .ok (.aload_n 1, 1) := by decide +kernel
theorem dX1_copyOf_50 : decode cX1_copyOf 50 = .ok (.getfield 30, 3) := by decide +kernel
theorem dX1_copyOf_53 : decode cX1_copyOf 53 = .ok (.putfield 30, 3) := by decide +kernel
theorem dX1_copyOf_56 : decode cX1_copyOf 56 = .ok (.aload_n 0, 1) := by decide +kernel
theorem dX1_copyOf_57 : decode cX1_copyOf 57 = .ok (.aload_n 1, 1) := by decide +kernel
theorem dX1_copyOf_58 : decode cX1_copyOf 58 = .ok (.getfield 33, 3) := by decide +kernel
theorem dX1_copyOf_61 : decode cX1_copyOf 61 = .ok (.putfield 33, 3) := by decide +kernel
theorem dX1_copyOf_64 : decode cX1_copyOf 64 = .ok (.return_, 1) := by decide +kernel
theorem dX1_hour_0 : decode cX1_hour 0 = .ok (.aload_n 0, 1) := by decide +kernel
theorem dX1_hour_1 : decode cX1_hour 1 = .ok (.getfield 18, 3) := by decide +kernel
theorem dX1_hour_4 : decode cX1_hour 4 = .ok (.bipush 24, 2) := by decide +kernel
theorem dX1_hour_6 : decode cX1_hour 6 = .ok (.irem, 1) := by decide +kernel
theorem dX1_hour_7 : decode cX1_hour 7 = .ok (.ireturn, 1) := by decide +kernel
set_option maxRecDepth 20000 in
theorem ggX1_liftLessWeight_X1_hour : GoodIn wsX1_liftLessWeight wsX1_hour := goodIn_r _ [11, 12, 13, 14, 15, 16, 17, 18, 19, 20] (by decide +kernel) (by decide +kernel)
set_option maxRecDepth 20000 in
theorem gX1_liftLessWeight_X1_hour : GoodIn wsX1_liftLessWeight (wsV RX1 46 RX1 yX1_hour wsX1_hour) := goodIn_app (goodIn_of _ (by decide +kernel)) ggX1_liftLessWeight_X1_hour
theorem dX1_liftLessWeight_0 : decode cX1_liftLessWeight 0 = .ok (.aload_n 0, 1) := by decide +kernel
theorem dX1_liftLessWeight_1 : decode cX1_liftLessWeight 1 = .ok (.getfield 24, 3) := by decide +kernel
theorem dX1_liftLessWeight_4 : decode cX1_liftLessWeight 4 = .ok (.aload_n 1, 1) := by decide +kernel
theorem dX1_liftLessWeight_5 : decode cX1_liftLessWeight 5 = .ok (.getfield 37, 3) := by decide +kernel
theorem dX1_liftLessWeight_8 : decode cX1_liftLessWeight 8 = .ok (.aload_n 0, 1) := by decide +kernel
theorem dX1_liftLessWeight_9 : decode cX1_liftLessWeight 9 = .ok (.getfield 15, 3) := by decide +kernel
theorem dX1_liftLessWeight_12 : decode cX1_liftLessWeight 12 = .ok (.iaload, 1) := by decide +kernel
theorem dX1_liftLessWeight_13 : decode cX1_liftLessWeight 13 = .ok (.aload_n 1, 1) := by decide +kernel
theorem dX1_liftLessWeight_14 : decode cX1_liftLessWeight 14 = .ok (.getfield 43, 3) := by decide +kernel
theorem dX1_liftLessWeight_17 : decode cX1_liftLessWeight 17 = .ok (.aload_n 0, 1) := by decide +kernel
theorem dX1_liftLessWeight_18 : decode cX1_liftLessWeight 18 = .ok (.invokevirtual 46, 3) := by decide +kernel
theorem dX1_liftLessWeight_21 : decode cX1_liftLessWeight 21 = .ok (.iaload, 1) := by decide +kernel
theorem dX1_liftLessWeight_22 : decode cX1_liftLessWeight 22 = .ok (.iadd, 1) := by decide +kernel
theorem dX1_liftLessWeight_23 : decode cX1_liftLessWeight 23 = .ok (.imul, 1) := by decide +kernel
theorem dX1_liftLessWeight_24 : decode cX1_liftLessWeight 24 = .ok (.bipush 10, 2) := by decide +kernel
theorem dX1_liftLessWeight_26 : decode cX1_liftLessWeight 26 = .ok (.aload_n 0, 1) := by decide +kernel
theorem dX1_liftLessWeight_27 : decode cX1_liftLessWeight 27 = .ok (.getfield 21, 3) := by decide +kernel
theorem dX1_liftLessWeight_30 : decode cX1_liftLessWeight 30 = .ok (.aload_n 0, 1) := by decide +kernel
theorem dX1_liftLessWeight_31 : decode cX1_liftLessWeight 31 = .ok (.getfield 27, 3) := by decide +kernel
theorem dX1_liftLessWeight_34 : decode cX1_liftLessWeight 34 = .ok (.iadd, 1) := by decide +kernel
theorem dX1_liftLessWeight_35 : decode cX1_liftLessWeight 35 = .ok (.imul, 1) := by decide +kernel
theorem dX1_liftLessWeight_36 : decode cX1_liftLessWeight 36 = .ok (.isub, 1) := by decide +kernel
theorem dX1_liftLessWeight_37 : decode cX1_liftLessWeight 37 = .ok (.ireturn, 1) := by decide +kernel
set_option maxRecDepth 20000 in
theorem ggX1_pass_X1_spend : GoodIn wsX1_pass wsX1_spend := goodIn_r _ [10, 11, 12, 13, 14, 15, 16, 72, 73, 74, 75, 76, 77, 78, 79] (by decide +kernel) (by decide +kernel)
set_option maxRecDepth 20000 in
theorem gX1_pass_X1_spend : GoodIn wsX1_pass (wsV RX1 50 RX1 yX1_spend wsX1_spend) := goodIn_app (goodIn_of _ (by decide +kernel)) ggX1_pass_X1_spend
set_option maxRecDepth 20000 in
theorem ggX1_pass_X1_liftLessWeight : GoodIn wsX1_pass wsX1_liftLessWeight := goodIn_r _ [20, 16, 21, 2, 22, 23, 11, 24, 25, 26, 9, 27, 5, 72, 73, 74, 75, 76, 77, 78, 79, 67, 68, 69, 70, 71] (by decide +kernel) (by decide +kernel)
set_option maxRecDepth 20000 in
theorem gX1_pass_X1_liftLessWeight : GoodIn wsX1_pass (wsV RX1 54 RX1 yX1_liftLessWeight wsX1_liftLessWeight) := goodIn_app (goodIn_of _ (by decide +kernel)) ggX1_pass_X1_liftLessWeight
set_option maxRecDepth 20000 in
theorem ggX1_pass_X1_climb : GoodIn wsX1_pass wsX1_climb := goodIn_r _ [31, 2, 12, 13, 14, 15, 32, 33, 34, 72, 73, 74, 75, 76, 77, 78, 79] (by decide +kernel) (by decide +kernel)
set_option maxRecDepth 20000 in
theorem gX1_pass_X1_climb : GoodIn wsX1_pass (wsV RX1 58 RX1 yX1_climb wsX1_climb) := goodIn_app (goodIn_of _ (by decide +kernel)) ggX1_pass_X1_climb
set_option maxRecDepth 20000 in
theorem ggX1_pass_X1_ventAbove : GoodIn wsX1_pass wsX1_ventAbove := goodIn_r _ [38, 16, 39, 72, 73, 74, 75, 76, 77, 78, 79] (by decide +kernel) (by decide +kernel)
set_option maxRecDepth 20000 in
theorem gX1_pass_X1_ventAbove : GoodIn wsX1_pass (wsV RX1 65 RX1 yX1_ventAbove wsX1_ventAbove) := goodIn_app (goodIn_of _ (by decide +kernel)) ggX1_pass_X1_ventAbove
set_option maxRecDepth 20000 in
theorem ggX1_pass_X1_hour : GoodIn wsX1_pass wsX1_hour := goodIn_r _ [27, 5, 72, 73, 74, 75, 76, 77, 78, 79] (by decide +kernel) (by decide +kernel)
set_option maxRecDepth 20000 in
theorem gX1_pass_X1_hour : GoodIn wsX1_pass (wsV RX1 46 RX1 yX1_hour wsX1_hour) := goodIn_app (goodIn_of _ (by decide +kernel)) ggX1_pass_X1_hour
set_option maxRecDepth 20000 in
theorem ggX1_pass_X8_leadFrom : GoodIn wsX1_pass wsX8_leadFrom := goodIn_r _ [44, 45, 46, 47, 48, 49, 50, 51, 52, 53, 54, 55, 56, 57, 58, 59, 60, 61, 62, 63, 64, 65, 66, 80, 81, 82, 83, 84] (by decide +kernel) (by decide +kernel)
set_option maxRecDepth 20000 in
theorem gX1_pass_X8_leadFrom : GoodIn wsX1_pass (wsV RX1 68 RX8 yX8_leadFrom wsX8_leadFrom) := goodIn_app (goodIn_of _ (by decide +kernel)) ggX1_pass_X8_leadFrom
theorem dX1_pass_0 : decode cX1_pass 0 = .ok (.aload_n 0, 1) := by decide +kernel
theorem dX1_pass_1 : decode cX1_pass 1 = .ok (.iload_n 1, 1) := by decide +kernel
theorem dX1_pass_2 : decode cX1_pass 2 = .ok (.iload_n 2, 1) := by decide +kernel
theorem dX1_pass_3 : decode cX1_pass 3 = .ok (.invokevirtual 50, 3) := by decide +kernel
theorem dX1_pass_6 : decode cX1_pass 6 = .ok (.aload_n 0, 1) := by decide +kernel
theorem dX1_pass_7 : decode cX1_pass 7 = .ok (.aload_n 0, 1) := by decide +kernel
theorem dX1_pass_8 : decode cX1_pass 8 = .ok (.aload_n 3, 1) := by decide +kernel
theorem dX1_pass_9 : decode cX1_pass 9 = .ok (.invokevirtual 54, 3) := by decide +kernel
theorem dX1_pass_12 : decode cX1_pass 12 = .ok (.invokevirtual 58, 3) := by decide +kernel
theorem dX1_pass_15 : decode cX1_pass 15 = .ok (.aload_n 0, 1) := by decide +kernel
theorem dX1_pass_16 : decode cX1_pass 16 = .ok (.aload_n 3, 1) := by decide +kernel
theorem dX1_pass_17 : decode cX1_pass 17 = .ok (.getfield 62, 3) := by decide +kernel
theorem dX1_pass_20 : decode cX1_pass 20 = .ok (.aload_n 0, 1) := by decide +kernel
theorem dX1_pass_21 : decode cX1_pass 21 = .ok (.getfield 15, 3) := by decide +kernel
theorem dX1_pass_24 : decode cX1_pass 24 = .ok (.iaload, 1) := by decide +kernel
theorem dX1_pass_25 : decode cX1_pass 25 = .ok (.invokevirtual 65, 3) := by decide +kernel
theorem dX1_pass_28 : decode cX1_pass 28 = .ok (.aload_n 0, 1) := by decide +kernel
theorem dX1_pass_29 : decode cX1_pass 29 = .ok (.getfield 15, 3) := by decide +kernel
theorem dX1_pass_32 : decode cX1_pass 32 = .ok (.ifCond .ne 11, 3) := by decide +kernel
theorem dX1_pass_35 : decode cX1_pass 35 = .ok (.aload_n 0, 1) := by decide +kernel
theorem dX1_pass_36 : decode cX1_pass 36 = .ok (.iconst 1, 1) := by decide +kernel
theorem dX1_pass_37 : decode cX1_pass 37 = .ok (.putfield 33, 3) := by decide +kernel
theorem dX1_pass_40 : decode cX1_pass 40 = .ok (.goto 26, 3) := by decide +kernel
theorem dX1_pass_43 : decode cX1_pass 43 = .ok (.aload_n 0, 1) := by decide +kernel
theorem dX1_pass_44 : decode cX1_pass 44 = .ok (.aload 4, 2) := by decide +kernel
theorem dX1_pass_46 : decode cX1_pass 46 = .ok (.aload_n 0, 1) := by decide +kernel
theorem dX1_pass_47 : decode cX1_pass 47 = .ok (.getfield 9, 3) := by decide +kernel
theorem dX1_pass_50 : decode cX1_pass 50 = .ok (.aload_n 0, 1) := by decide +kernel
theorem dX1_pass_51 : decode cX1_pass 51 = .ok (.getfield 15, 3) := by decide +kernel
theorem dX1_pass_54 : decode cX1_pass 54 = .ok (.aload_n 0, 1) := by decide +kernel
theorem dX1_pass_55 : decode cX1_pass 55 = .ok (.invokevirtual 46, 3) := by decide +kernel
theorem dX1_pass_58 : decode cX1_pass 58 = .ok (.aload 5, 2) := by decide +kernel
theorem dX1_pass_60 : decode cX1_pass 60 = .ok (.invokevirtual 68, 3) := by decide +kernel
theorem dX1_pass_63 : decode cX1_pass 63 = .ok (.putfield 9, 3) := by decide +kernel
theorem dX1_pass_66 : decode cX1_pass 66 = .ok (.aload_n 0, 1) := by decide +kernel
theorem dX1_pass_67 : decode cX1_pass 67 = .ok (.dup, 1) := by decide +kernel
theorem dX1_pass_68 : decode cX1_pass 68 = .ok (.getfield 18, 3) := by decide +kernel
theorem dX1_pass_71 : decode cX1_pass 71 = .ok (.iconst 1, 1) := by decide +kernel
theorem dX1_pass_72 : decode cX1_pass 72 = .ok (.iadd, 1) := by decide +kernel
theorem dX1_pass_73 : decode cX1_pass 73 = .ok (.putfield 18, 3) := by decide +kernel
theorem dX1_pass_76 : decode cX1_pass 76 = .ok (.return_, 1) := by decide +kernel
theorem dX1_spend_0 : decode cX1_spend 0 = .ok (.iload_n 1, 1) := by decide +kernel
theorem dX1_spend_1 : decode cX1_spend 1 = .ok (.iconst 1, 1) := by decide +kernel
theorem dX1_spend_2 : decode cX1_spend 2 = .ok (.if_icmp .ne 23, 3) := by decide +kernel
theorem dX1_spend_5 : decode cX1_spend 5 = .ok (.aload_n 0, 1) := by decide +kernel
theorem dX1_spend_6 : decode cX1_spend 6 = .ok (.dup, 1) := by decide +kernel
theorem dX1_spend_7 : decode cX1_spend 7 = .ok (.getfield 27, 3) := by decide +kernel
theorem dX1_spend_10 : decode cX1_spend 10 = .ok (.iload_n 2, 1) := by decide +kernel
theorem dX1_spend_11 : decode cX1_spend 11 = .ok (.aload_n 0, 1) := by decide +kernel
theorem dX1_spend_12 : decode cX1_spend 12 = .ok (.getfield 27, 3) := by decide +kernel
theorem dX1_spend_15 : decode cX1_spend 15 = .ok (.invokestatic 74, 3) := by decide +kernel
theorem dX1_spend_18 : decode cX1_spend 18 = .ok (.isub, 1) := by decide +kernel
theorem dX1_spend_19 : decode cX1_spend 19 = .ok (.putfield 27, 3) := by decide +kernel
theorem dX1_spend_22 : decode cX1_spend 22 = .ok (.goto 25, 3) := by decide +kernel
theorem dX1_spend_25 : decode cX1_spend 25 = .ok (.iload_n 1, 1) := by decide +kernel
theorem dX1_spend_26 : decode cX1_spend 26 = .ok (.iconst 2, 1) := by decide +kernel
theorem dX1_spend_27 : decode cX1_spend 27 = .ok (.if_icmp .ne 20, 3) := by decide +kernel
theorem dX1_spend_30 : decode cX1_spend 30 = .ok (.aload_n 0, 1) := by decide +kernel
theorem dX1_spend_31 : decode cX1_spend 31 = .ok (.dup, 1) := by decide +kernel
theorem dX1_spend_32 : decode cX1_spend 32 = .ok (.getfield 24, 3) := by decide +kernel
theorem dX1_spend_35 : decode cX1_spend 35 = .ok (.iload_n 2, 1) := by decide +kernel
theorem dX1_spend_36 : decode cX1_spend 36 = .ok (.aload_n 0, 1) := by decide +kernel
theorem dX1_spend_37 : decode cX1_spend 37 = .ok (.getfield 24, 3) := by decide +kernel
theorem dX1_spend_40 : decode cX1_spend 40 = .ok (.invokestatic 74, 3) := by decide +kernel
theorem dX1_spend_43 : decode cX1_spend 43 = .ok (.isub, 1) := by decide +kernel
theorem dX1_spend_44 : decode cX1_spend 44 = .ok (.putfield 24, 3) := by decide +kernel
theorem dX1_spend_47 : decode cX1_spend 47 = .ok (.return_, 1) := by decide +kernel
theorem dX1_climb_0 : decode cX1_climb 0 = .ok (.iload_n 1, 1) := by decide +kernel
theorem dX1_climb_1 : decode cX1_climb 1 = .ok (.ifCond .le 21, 3) := by decide +kernel
theorem dX1_climb_4 : decode cX1_climb 4 = .ok (.aload_n 0, 1) := by decide +kernel
theorem dX1_climb_5 : decode cX1_climb 5 = .ok (.aload_n 0, 1) := by decide +kernel
theorem dX1_climb_6 : decode cX1_climb 6 = .ok (.getfield 15, 3) := by decide +kernel
theorem dX1_climb_9 : decode cX1_climb 9 = .ok (.iconst 1, 1) := by decide +kernel
theorem dX1_climb_10 : decode cX1_climb 10 = .ok (.iadd, 1) := by decide +kernel
theorem dX1_climb_11 : decode cX1_climb 11 = .ok (.bipush 7, 2) := by decide +kernel
theorem dX1_climb_13 : decode cX1_climb 13 = .ok (.invokestatic 74, 3) := by decide +kernel
theorem dX1_climb_16 : decode cX1_climb 16 = .ok (.putfield 15, 3) := by decide +kernel
theorem dX1_climb_19 : decode cX1_climb 19 = .ok (.goto 21, 3) := by decide +kernel
theorem dX1_climb_22 : decode cX1_climb 22 = .ok (.iload_n 1, 1) := by decide +kernel
theorem dX1_climb_23 : decode cX1_climb 23 = .ok (.ifCond .ge 17, 3) := by decide +kernel
theorem dX1_climb_26 : decode cX1_climb 26 = .ok (.aload_n 0, 1) := by decide +kernel
theorem dX1_climb_27 : decode cX1_climb 27 = .ok (.aload_n 0, 1) := by decide +kernel
theorem dX1_climb_28 : decode cX1_climb 28 = .ok (.getfield 15, 3) := by decide +kernel
theorem dX1_climb_31 : decode cX1_climb 31 = .ok (.iconst 1, 1) := by decide +kernel
theorem dX1_climb_32 : decode cX1_climb 32 = .ok (.isub, 1) := by decide +kernel
theorem dX1_climb_33 : decode cX1_climb 33 = .ok (.iconst 0, 1) := by decide +kernel
theorem dX1_climb_34 : decode cX1_climb 34 = .ok (.invokestatic 80, 3) := by decide +kernel
theorem dX1_climb_37 : decode cX1_climb 37 = .ok (.putfield 15, 3) := by decide +kernel
theorem dX1_climb_40 : decode cX1_climb 40 = .ok (.return_, 1) := by decide +kernel
theorem dX1_ventAbove_0 : decode cX1_ventAbove 0 = .ok (.aload_n 0, 1) := by decide +kernel
theorem dX1_ventAbove_1 : decode cX1_ventAbove 1 = .ok (.getfield 24, 3) := by decide +kernel
theorem dX1_ventAbove_4 : decode cX1_ventAbove 4 = .ok (.iload_n 1, 1) := by decide +kernel
theorem dX1_ventAbove_5 : decode cX1_ventAbove 5 = .ok (.if_icmp .le 23, 3) := by decide +kernel
theorem dX1_ventAbove_8 : decode cX1_ventAbove 8 = .ok (.aload_n 0, 1) := by decide +kernel
theorem dX1_ventAbove_9 : decode cX1_ventAbove 9 = .ok (.dup, 1) := by decide +kernel
theorem dX1_ventAbove_10 : decode cX1_ventAbove 10 = .ok (.getfield 30, 3) := by decide +kernel
theorem dX1_ventAbove_13 : decode cX1_ventAbove 13 = .ok (.aload_n 0, 1) := by decide +kernel
theorem dX1_ventAbove_14 : decode cX1_ventAbove 14 = .ok (.getfield 24, 3) := by decide +kernel
theorem dX1_ventAbove_17 : decode cX1_ventAbove 17 = .ok (.iload_n 1, 1) := by decide +kernel
theorem dX1_ventAbove_18 : decode cX1_ventAbove 18 = .ok (.isub, 1) := by decide +kernel
theorem dX1_ventAbove_19 : decode cX1_ventAbove 19 = .ok (.iadd, 1) := by decide +kernel
theorem dX1_ventAbove_20 : decode cX1_ventAbove 20 = .ok (.putfield 30, 3) := by decide +kernel
theorem dX1_ventAbove_23 : decode cX1_ventAbove 23 = .ok (.aload_n 0, 1) := by decide +kernel
theorem dX1_ventAbove_24 : decode cX1_ventAbove 24 = .ok (.iload_n 1, 1) := by decide +kernel
theorem dX1_ventAbove_25 : decode cX1_ventAbove 25 = .ok (.putfield 24, 3) := by decide +kernel
theorem dX1_ventAbove_28 : decode cX1_ventAbove 28 = .ok (.return_, 1) := by decide +kernel
theorem dX2_init_0 : decode cX2_init 0 = .ok (.aload_n 0, 1) := by decide +kernel
theorem dX2_init_1 : decode cX2_init 1 = .ok (.invokespecial 3, 3) := by decide +kernel
theorem dX2_init_4 : decode cX2_init 4 = .ok (.aload_n 0, 1) := by decide +kernel
theorem dX2_init_5 : decode cX2_init 5 = .ok (.iconst 4, 1) := by decide +kernel
theorem dX2_init_6 : decode cX2_init 6 = .ok (.newarray .int, 2) := by decide +kernel
theorem dX2_init_8 : decode cX2_init 8 = .ok (.putfield 9, 3) := by decide +kernel
theorem dX2_init_11 : decode cX2_init 11 = .ok (.aload_n 0, 1) := by decide +kernel
theorem dX2_init_12 : decode cX2_init 12 = .ok (.iconst 4, 1) := by decide +kernel
theorem dX2_init_13 : decode cX2_init 13 = .ok (.newarray .int, 2) := by decide +kernel
theorem dX2_init_15 : decode cX2_init 15 = .ok (.putfield 15, 3) := by decide +kernel
theorem dX2_init_18 : decode cX2_init 18 = .ok (.aload_n 0, 1) := by decide +kernel
theorem dX2_init_19 : decode cX2_init 19 = .ok (.iconst 0, 1) := by decide +kernel
theorem dX2_init_20 : decode cX2_init 20 = .ok (.putfield 18, 3) := by decide +kernel
theorem dX2_init_23 : decode cX2_init 23 = .ok (.aload_n 0, 1) := by decide +kernel
theorem dX2_init_24 : decode cX2_init 24 = .ok (.sipush 576, 3) := by decide +kernel
theorem dX2_init_27 : decode cX2_init 27 = .ok (.newarray .int, 2) := by decide +kernel
theorem dX2_init_29 : decode cX2_init 29 = .ok (.putfield 22, 3) := by decide +kernel
theorem dX2_init_32 : decode cX2_init 32 = .ok (.aload_n 0, 1) := by decide +kernel
theorem dX2_init_33 : decode cX2_init 33 = .ok (.sipush 576, 3) := by decide +kernel
theorem dX2_init_36 : decode cX2_init 36 = .ok (.newarray .int, 2) := by decide +kernel
theorem dX2_init_38 : decode cX2_init 38 = .ok (.putfield 25, 3) := by decide +kernel
theorem dX2_init_41 : decode cX2_init 41 = .ok (.aload_n 0, 1) := by decide +kernel
theorem dX2_init_42 : decode cX2_init 42 = .ok (.aload_n 1, 1) := by decide +kernel
theorem dX2_init_43 : decode cX2_init 43 = .ok (.putfield 28, 3) := by decide +kernel
theorem dX2_init_46 : decode cX2_init 46 = .ok (.return_, 1) := by decide +kernel
theorem dX2_add_0 : decode cX2_add 0 = .ok (.aload_n 0, 1) := by decide +kernel
theorem dX2_add_1 : decode cX2_add 1 = .ok (.getfield 18, 3) := by decide +kernel
theorem dX2_add_4 : decode cX2_add 4 = .ok (.iconst 4, 1) := by decide +kernel
theorem dX2_add_5 : decode cX2_add 5 = .ok (.if_icmp .ge 33, 3) := by decide +kernel
theorem dX2_add_8 : decode cX2_add 8 = .ok (.aload_n 0, 1) := by decide +kernel
theorem dX2_add_9 : decode cX2_add 9 = .ok (.getfield 9, 3) := by decide +kernel
theorem dX2_add_12 : decode cX2_add 12 = .ok (.aload_n 0, 1) := by decide +kernel
theorem dX2_add_13 : decode cX2_add 13 = .ok (.getfield 18, 3) := by decide +kernel
theorem dX2_add_16 : decode cX2_add 16 = .ok (.iload_n 1, 1) := by decide +kernel
theorem dX2_add_17 : decode cX2_add 17 = .ok (.iastore, 1) := by decide +kernel
theorem dX2_add_18 : decode cX2_add 18 = .ok (.aload_n 0, 1) := by decide +kernel
theorem dX2_add_19 : decode cX2_add 19 = .ok (.getfield 15, 3) := by decide +kernel
theorem dX2_add_22 : decode cX2_add 22 = .ok (.aload_n 0, 1) := by decide +kernel
theorem dX2_add_23 : decode cX2_add 23 = .ok (.getfield 18, 3) := by decide +kernel
theorem dX2_add_26 : decode cX2_add 26 = .ok (.iload_n 2, 1) := by decide +kernel
theorem dX2_add_27 : decode cX2_add 27 = .ok (.iastore, 1) := by decide +kernel
theorem dX2_add_28 : decode cX2_add 28 = .ok (.aload_n 0, 1) := by decide +kernel
theorem dX2_add_29 : decode cX2_add 29 = .ok (.dup, 1) := by decide +kernel
theorem dX2_add_30 : decode cX2_add 30 = .ok (.getfield 18, 3) := by decide +kernel
theorem dX2_add_33 : decode cX2_add 33 = .ok (.iconst 1, 1) := by decide +kernel
theorem dX2_add_34 : decode cX2_add 34 = .ok (.iadd, 1) := by decide +kernel
theorem dX2_add_35 : decode cX2_add 35 = .ok (.putfield 18, 3) := by decide +kernel
theorem dX2_add_38 : decode cX2_add 38 = .ok (.return_, 1) := by decide +kernel
theorem dX2_standOn_0 : decode cX2_standOn 0 = .ok (.iconst 0, 1) := by decide +kernel
theorem dX2_standOn_1 : decode cX2_standOn 1 = .ok (.istore_n 2, 1) := by decide +kernel
theorem dX2_standOn_2 : decode cX2_standOn 2 = .ok (.iload_n 2, 1) := by decide +kernel
theorem dX2_standOn_3 : decode cX2_standOn 3 = .ok (.aload_n 0, 1) := by decide +kernel
theorem dX2_standOn_4 : decode cX2_standOn 4 = .ok (.getfield 18, 3) := by decide +kernel
theorem dX2_standOn_7 : decode cX2_standOn 7 = .ok (.if_icmp .ge 21, 3) := by decide +kernel
theorem dX2_standOn_10 : decode cX2_standOn 10 = .ok (.aload_n 0, 1) := by decide +kernel
theorem dX2_standOn_11 : decode cX2_standOn 11 = .ok (.getfield 9, 3) := by decide +kernel
theorem dX2_standOn_14 : decode cX2_standOn 14 = .ok (.iload_n 2, 1) := by decide +kernel
theorem dX2_standOn_15 : decode cX2_standOn 15 = .ok (.iaload, 1) := by decide +kernel
theorem dX2_standOn_16 : decode cX2_standOn 16 = .ok (.iload_n 1, 1) := by decide +kernel
theorem dX2_standOn_17 : decode cX2_standOn 17 = .ok (.if_icmp .ne 5, 3) := by decide +kernel
theorem dX2_standOn_20 : decode cX2_standOn 20 = .ok (.iconst 1, 1) := by decide +kernel
theorem dX2_standOn_21 : decode cX2_standOn 21 = .ok (.ireturn, 1) := by decide +kernel
theorem dX2_standOn_22 : decode cX2_standOn 22 = .ok (.iinc 2 1, 3) := by decide +kernel
theorem dX2_standOn_25 : decode cX2_standOn 25 = .ok (.goto (-23), 3) := by decide +kernel
theorem dX2_standOn_28 : decode cX2_standOn 28 = .ok (.iconst 0, 1) := by decide +kernel
theorem dX2_standOn_29 : decode cX2_standOn 29 = .ok (.ireturn, 1) := by decide +kernel
set_option maxRecDepth 20000 in
theorem ggX2_measureFrom_J7_fill_53178 : GoodIn wsX2_measureFrom wsJ7_fill_53178 := goodIn_r _ [8] (by decide +kernel) (by decide +kernel)
set_option maxRecDepth 20000 in
theorem gX2_measureFrom_J7_fill_53178 : GoodIn wsX2_measureFrom (va_wsS RX2 32 yJ7_fill_53178 wsJ7_fill_53178) := goodIn_app (goodIn_of _ (by decide +kernel)) ggX2_measureFrom_J7_fill_53178
set_option maxRecDepth 20000 in
theorem ggX2_measureFrom_X2_stepOn : GoodIn wsX2_measureFrom wsX2_stepOn := goodIn_r _ [13, 2, 1, 3, 4, 14, 15, 16, 17, 18, 19, 20, 21, 22, 23, 24, 25, 26, 27, 28, 29, 30, 31, 32, 33, 34, 35, 36, 37, 38, 39, 40, 41, 42] (by decide +kernel) (by decide +kernel)
set_option maxRecDepth 20000 in
theorem gX2_measureFrom_X2_stepOn : GoodIn wsX2_measureFrom (wsV RX2 43 RX2 yX2_stepOn wsX2_stepOn) := goodIn_app (goodIn_of _ (by decide +kernel)) ggX2_measureFrom_X2_stepOn
theorem dX2_measureFrom_0 : decode cX2_measureFrom 0 = .ok (.aload_n 0, 1) := by decide +kernel
theorem dX2_measureFrom_1 : decode cX2_measureFrom 1 = .ok (.getfield 22, 3) := by decide +kernel
theorem dX2_measureFrom_4 : decode cX2_measureFrom 4 = .ok (.iconst (-1), 1) := by decide +kernel
theorem dX2_measureFrom_5 : decode cX2_measureFrom 5 = .ok (.invokestatic 32, 3) := by decide +kernel
theorem dX2_measureFrom_8 : decode cX2_measureFrom 8 = .ok (.aload_n 0, 1) := by decide +kernel
theorem dX2_measureFrom_9 : decode cX2_measureFrom 9 = .ok (.getfield 28, 3) := by decide +kernel
theorem dX2_measureFrom_12 : decode cX2_measureFrom 12 = .ok (.getfield 38, 3) := by decide +kernel
theorem dX2_measureFrom_15 : decode cX2_measureFrom 15 = .ok (.iload_n 1, 1) := by decide +kernel
theorem dX2_measureFrom_16 : decode cX2_measureFrom 16 = .ok (.iaload, 1) := by decide +kernel
theorem dX2_measureFrom_17 : decode cX2_measureFrom 17 = .ok (.iconst 1, 1) := by decide +kernel
theorem dX2_measureFrom_18 : decode cX2_measureFrom 18 = .ok (.if_icmp .ne 4, 3) := by decide +kernel
theorem dX2_measureFrom_21 : decode cX2_measureFrom 21 = .ok (.return_, 1) := by decide +kernel
theorem dX2_measureFrom_22 : decode cX2_measureFrom 22 = .ok (.aload_n 0, 1) := by decide +kernel
theorem dX2_measureFrom_23 : decode cX2_measureFrom 23 = .ok (.getfield 22, 3) := by decide +kernel
theorem dX2_measureFrom_26 : decode cX2_measureFrom 26 = .ok (.iload_n 1, 1) := by decide +kernel
theorem dX2_measureFrom_27 : decode cX2_measureFrom 27 = .ok (.iconst 0, 1) := by decide +kernel
theorem dX2_measureFrom_28 : decode cX2_measureFrom 28 = .ok (.iastore, 1) := by decide +kernel
theorem dX2_measureFrom_29 : decode cX2_measureFrom 29 = .ok (.aload_n 0, 1) := by decide +kernel
theorem dX2_measureFrom_30 : decode cX2_measureFrom 30 = .ok (.getfield 25, 3) := by decide +kernel
theorem dX2_measureFrom_33 : decode cX2_measureFrom 33 = .ok (.iconst 0, 1) := by decide +kernel
theorem dX2_measureFrom_34 : decode cX2_measureFrom 34 = .ok (.iload_n 1, 1) := by decide +kernel
theorem dX2_measureFrom_35 : decode cX2_measureFrom 35 = .ok (.iastore, 1) := by decide +kernel
theorem dX2_measureFrom_36 : decode cX2_measureFrom 36 = .ok (.iconst 1, 1) := by decide +kernel
theorem dX2_measureFrom_37 : decode cX2_measureFrom 37 = .ok (.istore_n 2, 1) := by decide +kernel
theorem dX2_measureFrom_38 : decode cX2_measureFrom 38 = .ok (.iconst 0, 1) := by decide +kernel
theorem dX2_measureFrom_39 : decode cX2_measureFrom 39 = .ok (.istore_n 3, 1) := by decide +kernel
theorem dX2_measureFrom_40 : decode cX2_measureFrom 40 = .ok (.iload_n 3, 1) := by decide +kernel
theorem dX2_measureFrom_41 : decode cX2_measureFrom 41 = .ok (.iload_n 2, 1) := by decide +kernel
theorem dX2_measureFrom_42 : decode cX2_measureFrom 42 = .ok (.if_icmp .ge 28, 3) := by decide +kernel
theorem dX2_measureFrom_45 : decode cX2_measureFrom 45 = .ok (.iload_n 3, 1) := by decide +kernel
theorem dX2_measureFrom_46 : decode cX2_measureFrom 46 = .ok (.sipush 576, 3) := by decide +kernel
theorem dX2_measureFrom_49 : decode cX2_measureFrom 49 = .ok (.if_icmp .ge 21, 3) := by decide +kernel
theorem dX2_measureFrom_52 : decode cX2_measureFrom 52 = .ok (.aload_n 0, 1) := by decide +kernel
theorem dX2_measureFrom_53 : decode cX2_measureFrom 53 = .ok (.aload_n 0, 1) := by decide +kernel
theorem dX2_measureFrom_54 : decode cX2_measureFrom 54 = .ok (.getfield 25, 3) := by decide +kernel
theorem dX2_measureFrom_57 : decode cX2_measureFrom 57 = .ok (.iload_n 3, 1) := by decide +kernel
theorem dX2_measureFrom_58 : decode cX2_measureFrom 58 = .ok (.iaload, 1) := by decide +kernel
theorem dX2_measureFrom_59 : decode cX2_measureFrom 59 = .ok (.iload_n 2, 1) := by decide +kernel
theorem dX2_measureFrom_60 : decode cX2_measureFrom 60 = .ok (.invokevirtual 43, 3) := by decide +kernel
theorem dX2_measureFrom_63 : decode cX2_measureFrom 63 = .ok (.istore_n 2, 1) := by decide +kernel
theorem dX2_measureFrom_64 : decode cX2_measureFrom 64 = .ok (.iinc 3 1, 3) := by decide +kernel
theorem dX2_measureFrom_67 : decode cX2_measureFrom 67 = .ok (.goto (-27), 3) := by decide +kernel
theorem dX2_measureFrom_70 : decode cX2_measureFrom 70 = .ok (.return_, 1) := by decide +kernel
set_option maxRecDepth 20000 in
theorem ggX2_stepOn_X5_movedFrom : GoodIn wsX2_stepOn wsX5_movedFrom := goodIn_r _ [9, 10, 11, 12, 13, 14, 15, 16, 17, 8, 18, 19, 20, 21, 22, 23, 24, 31, 32, 33] (by decide +kernel) (by decide +kernel)
set_option maxRecDepth 20000 in
theorem gX2_stepOn_X5_movedFrom : GoodIn wsX2_stepOn (wsV RX2 53 RX5 yX5_movedFrom wsX5_movedFrom) := goodIn_app (goodIn_of _ (by decide +kernel)) ggX2_stepOn_X5_movedFrom
theorem dX2_stepOn_0 : decode cX2_stepOn 0 = .ok (.iload_n 2, 1) := by decide +kernel
theorem dX2_stepOn_1 : decode cX2_stepOn 1 = .ok (.istore_n 3, 1) := by decide +kernel
theorem dX2_stepOn_2 : decode cX2_stepOn 2 = .ok (.iconst 0, 1) := by decide +kernel
theorem dX2_stepOn_3 : decode cX2_stepOn 3 = .ok (.istore 4, 2) := by decide +kernel
theorem dX2_stepOn_5 : decode cX2_stepOn 5 = .ok (.iload 4, 2) := by decide +kernel
theorem dX2_stepOn_7 : decode cX2_stepOn 7 = .ok (.iconst 4, 1) := by decide +kernel
theorem dX2_stepOn_8 : decode cX2_stepOn 8 = .ok (.if_icmp .ge 89, 3) := by decide +kernel
theorem dX2_stepOn_11 : decode cX2_stepOn 11 = .ok (.aload_n 0, 1) := by decide +kernel
theorem dX2_stepOn_12 : decode cX2_stepOn 12 = .ok (.getfield 28, 3) := by decide +kernel
theorem dX2_stepOn_15 : decode cX2_stepOn 15 = .ok (.iload_n 1, 1) := by decide +kernel
theorem dX2_stepOn_16 : decode cX2_stepOn 16 = .ok (.getstatic 47, 3) := by decide +kernel
theorem dX2_stepOn_19 : decode cX2_stepOn 19 = .ok (.iload 4, 2) := by decide +kernel
theorem dX2_stepOn_21 : decode cX2_stepOn 21 = .ok (.iaload, 1) := by decide +kernel
theorem dX2_stepOn_22 : decode cX2_stepOn 22 = .ok (.getstatic 50, 3) := by decide +kernel
theorem dX2_stepOn_25 : decode cX2_stepOn 25 = .ok (.iload 4, 2) := by decide +kernel
theorem dX2_stepOn_27 : decode cX2_stepOn 27 = .ok (.iaload, 1) := by decide +kernel
theorem dX2_stepOn_28 : decode cX2_stepOn 28 = .ok (.invokevirtual 53, 3) := by decide +kernel
theorem dX2_stepOn_31 : decode cX2_stepOn 31 = .ok (.istore 5, 2) := by decide +kernel
theorem dX2_stepOn_33 : decode cX2_stepOn 33 = .ok (.aload_n 0, 1) := by decide +kernel
theorem dX2_stepOn_34 : decode cX2_stepOn 34 = .ok (.getfield 22, 3) := by decide +kernel
theorem dX2_stepOn_37 : decode cX2_stepOn 37 = .ok (.iload 5, 2) := by decide +kernel
theorem dX2_stepOn_39 : decode cX2_stepOn 39 = .ok (.iaload, 1) := by decide +kernel
theorem dX2_stepOn_40 : decode cX2_stepOn 40 = .ok (.iconst (-1), 1) := by decide +kernel
theorem dX2_stepOn_41 : decode cX2_stepOn 41 = .ok (.if_icmp .ne 50, 3) := by decide +kernel
theorem dX2_stepOn_44 : decode cX2_stepOn 44 = .ok (.aload_n 0, 1) := by decide +kernel
theorem dX2_stepOn_45 : decode cX2_stepOn 45 = .ok (.getfield 28, 3) := by decide +kernel
theorem dX2_stepOn_48 : decode cX2_stepOn 48 = .ok (.getfield 38, 3) := by decide +kernel
theorem dX2_stepOn_51 : decode cX2_stepOn 51 = .ok (.iload 5, 2) := by decide +kernel
theorem dX2_stepOn_53 : decode cX2_stepOn 53 = .ok (.iaload, 1) := by decide +kernel
theorem dX2_stepOn_54 : decode cX2_stepOn 54 = .ok (.iconst 1, 1) := by decide +kernel
theorem dX2_stepOn_55 : decode cX2_stepOn 55 = .ok (.if_icmp .eq 36, 3) := by decide +kernel
theorem dX2_stepOn_58 : decode cX2_stepOn 58 = .ok (.iload_n 3, 1) := by decide +kernel
theorem dX2_stepOn_59 : decode cX2_stepOn 59 = .ok (.sipush 576, 3) := by decide +kernel
theorem dX2_stepOn_62 : decode cX2_stepOn 62 = .ok (.if_icmp .ge 29, 3) := by decide +kernel
theorem dX2_stepOn_65 : decode cX2_stepOn 65 = .ok (.aload_n 0, 1) := by decide +kernel
theorem dX2_stepOn_66 : decode cX2_stepOn 66 = .ok (.getfield 22, 3) := by decide +kernel
theorem dX2_stepOn_69 : decode cX2_stepOn 69 = .ok (.iload 5, 2) := by decide +kernel
theorem dX2_stepOn_71 : decode cX2_stepOn 71 = .ok (.aload_n 0, 1) := by decide +kernel
theorem dX2_stepOn_72 : decode cX2_stepOn 72 = .ok (.getfield 22, 3) := by decide +kernel
theorem dX2_stepOn_75 : decode cX2_stepOn 75 = .ok (.iload_n 1, 1) := by decide +kernel
theorem dX2_stepOn_76 : decode cX2_stepOn 76 = .ok (.iaload, 1) := by decide +kernel
theorem dX2_stepOn_77 : decode cX2_stepOn 77 = .ok (.iconst 1, 1) := by decide +kernel
theorem dX2_stepOn_78 : decode cX2_stepOn 78 = .ok (.iadd, 1) := by decide +kernel
theorem dX2_stepOn_79 : decode cX2_stepOn 79 = .ok (.iastore, 1) := by decide +kernel
theorem dX2_stepOn_80 : decode cX2_stepOn 80 = .ok (.aload_n 0, 1) := by decide +kernel
theorem dX2_stepOn_81 : decode cX2_stepOn 81 = .ok (.getfield 25, 3) := by decide +kernel
theorem dX2_stepOn_84 : decode cX2_stepOn 84 = .ok (.iload_n 3, 1) := by decide +kernel
theorem dX2_stepOn_85 : decode cX2_stepOn 85 = .ok (.iload 5, 2) := by decide +kernel
theorem dX2_stepOn_87 : decode cX2_stepOn 87 = .ok (.iastore, 1) := by decide +kernel
theorem dX2_stepOn_88 : decode cX2_stepOn 88 = .ok (.iinc 3 1, 3) := by decide +kernel
theorem dX2_stepOn_91 : decode cX2_stepOn 91 = .ok (.iinc 4 1, 3) := by decide +kernel
theorem dX2_stepOn_94 : decode cX2_stepOn 94 = .ok (.goto (-89), 3) := by decide +kernel
theorem dX2_stepOn_97 : decode cX2_stepOn 97 = .ok (.iload_n 3, 1) := by decide +kernel
theorem dX2_stepOn_98 : decode cX2_stepOn 98 = .ok (.ireturn, 1) := by decide +kernel
theorem dX2_ticksOf_0 : decode cX2_ticksOf 0 = .ok (.aload_n 0, 1) := by decide +kernel
theorem dX2_ticksOf_1 : decode cX2_ticksOf 1 = .ok (.getfield 22, 3) := by decide +kernel
theorem dX2_ticksOf_4 : decode cX2_ticksOf 4 = .ok (.aload_n 0, 1) := by decide +kernel
theorem dX2_ticksOf_5 : decode cX2_ticksOf 5 = .ok (.getfield 9, 3) := by decide +kernel
theorem dX2_ticksOf_8 : decode cX2_ticksOf 8 = .ok (.iload_n 1, 1) := by decide +kernel
theorem dX2_ticksOf_9 : decode cX2_ticksOf 9 = .ok (.iaload, 1) := by decide +kernel
theorem dX2_ticksOf_10 : decode cX2_ticksOf 10 = .ok (.iaload, 1) := by decide +kernel
theorem dX2_ticksOf_11 : decode cX2_ticksOf 11 = .ok (.istore_n 2, 1) := by decide +kernel
theorem dX2_ticksOf_12 : decode cX2_ticksOf 12 = .ok (.aload_n 0, 1) := by decide +kernel
theorem dX2_ticksOf_13 : decode cX2_ticksOf 13 = .ok (.getfield 15, 3) := by decide +kernel
theorem dX2_ticksOf_16 : decode cX2_ticksOf 16 = .ok (.iload_n 1, 1) := by decide +kernel
theorem dX2_ticksOf_17 : decode cX2_ticksOf 17 = .ok (.iaload, 1) := by decide +kernel
theorem dX2_ticksOf_18 : decode cX2_ticksOf 18 = .ok (.istore_n 3, 1) := by decide +kernel
theorem dX2_ticksOf_19 : decode cX2_ticksOf 19 = .ok (.iload_n 2, 1) := by decide +kernel
theorem dX2_ticksOf_20 : decode cX2_ticksOf 20 = .ok (.iconst (-1), 1) := by decide +kernel
theorem dX2_ticksOf_21 : decode cX2_ticksOf 21 = .ok (.if_icmp .eq 8, 3) := by decide +kernel
theorem dX2_ticksOf_24 : decode cX2_ticksOf 24 = .ok (.iload_n 3, 1) := by decide +kernel
theorem dX2_ticksOf_25 : decode cX2_ticksOf 25 = .ok (.iconst 1, 1) := by decide +kernel
theorem dX2_ticksOf_26 : decode cX2_ticksOf 26 = .ok (.if_icmp .ge 5, 3) := by decide +kernel
theorem dX2_ticksOf_29 : decode cX2_ticksOf 29 = .ok (.iconst (-1), 1) := by decide +kernel
theorem dX2_ticksOf_30 : decode cX2_ticksOf 30 = .ok (.ireturn, 1) := by decide +kernel
theorem dX2_ticksOf_31 : decode cX2_ticksOf 31 = .ok (.iload_n 2, 1) := by decide +kernel
theorem dX2_ticksOf_32 : decode cX2_ticksOf 32 = .ok (.iload_n 3, 1) := by decide +kernel
theorem dX2_ticksOf_33 : decode cX2_ticksOf 33 = .ok (.iadd, 1) := by decide +kernel
theorem dX2_ticksOf_34 : decode cX2_ticksOf 34 = .ok (.iconst 1, 1) := by decide +kernel
theorem dX2_ticksOf_35 : decode cX2_ticksOf 35 = .ok (.isub, 1) := by decide +kernel
theorem dX2_ticksOf_36 : decode cX2_ticksOf 36 = .ok (.iload_n 3, 1) := by decide +kernel
theorem dX2_ticksOf_37 : decode cX2_ticksOf 37 = .ok (.idiv, 1) := by decide +kernel
theorem dX2_ticksOf_38 : decode cX2_ticksOf 38 = .ok (.ireturn, 1) := by decide +kernel
set_option maxRecDepth 20000 in
theorem ggX2_soonest_X2_ticksOf : GoodIn wsX2_soonest wsX2_ticksOf := goodIn_r _ [6, 7, 8, 9, 10, 11, 12, 13, 14, 15] (by decide +kernel) (by decide +kernel)
set_option maxRecDepth 20000 in
theorem gX2_soonest_X2_ticksOf : GoodIn wsX2_soonest (wsV RX2 57 RX2 yX2_ticksOf wsX2_ticksOf) := goodIn_app (goodIn_of _ (by decide +kernel)) ggX2_soonest_X2_ticksOf
theorem dX2_soonest_0 : decode cX2_soonest 0 = .ok (.iconst (-1), 1) := by decide +kernel
theorem dX2_soonest_1 : decode cX2_soonest 1 = .ok (.istore_n 1, 1) := by decide +kernel
theorem dX2_soonest_2 : decode cX2_soonest 2 = .ok (.iconst (-1), 1) := by decide +kernel
theorem dX2_soonest_3 : decode cX2_soonest 3 = .ok (.istore_n 2, 1) := by decide +kernel
theorem dX2_soonest_4 : decode cX2_soonest 4 = .ok (.iconst 0, 1) := by decide +kernel
theorem dX2_soonest_5 : decode cX2_soonest 5 = .ok (.istore_n 3, 1) := by decide +kernel
theorem dX2_soonest_6 : decode cX2_soonest 6 = .ok (.iload_n 3, 1) := by decide +kernel
theorem dX2_soonest_7 : decode cX2_soonest 7 = .ok (.aload_n 0, 1) := by decide +kernel
theorem dX2_soonest_8 : decode cX2_soonest 8 = .ok (.getfield 18, 3) := by decide +kernel
theorem dX2_soonest_11 : decode cX2_soonest 11 = .ok (.if_icmp .ge 38, 3) := by decide +kernel
theorem dX2_soonest_14 : decode cX2_soonest 14 = .ok (.aload_n 0, 1) := by decide +kernel
theorem dX2_soonest_15 : decode cX2_soonest 15 = .ok (.iload_n 3, 1) := by decide +kernel
theorem dX2_soonest_16 : decode cX2_soonest 16 = .ok (.invokevirtual 57, 3) := by decide +kernel
theorem dX2_soonest_19 : decode cX2_soonest 19 = .ok (.istore 4, 2) := by decide +kernel
theorem dX2_soonest_21 : decode cX2_soonest 21 = .ok (.iload 4, 2) := by decide +kernel
theorem dX2_soonest_23 : decode cX2_soonest 23 = .ok (.iconst (-1), 1) := by decide +kernel
theorem dX2_soonest_24 : decode cX2_soonest 24 = .ok (.if_icmp .eq 19, 3) := by decide +kernel
theorem dX2_soonest_27 : decode cX2_soonest 27 = .ok (.iload_n 1, 1) := by decide +kernel
theorem dX2_soonest_28 : decode cX2_soonest 28 = .ok (.iconst (-1), 1) := by decide +kernel
theorem dX2_soonest_29 : decode cX2_soonest 29 = .ok (.if_icmp .eq 9, 3) := by decide +kernel
theorem dX2_soonest_32 : decode cX2_soonest 32 = .ok (.iload 4, 2) := by decide +kernel
theorem dX2_soonest_34 : decode cX2_soonest 34 = .ok (.iload_n 2, 1) := by decide +kernel
theorem dX2_soonest_35 : decode cX2_soonest 35 = .ok (.if_icmp .ge 8, 3) := by decide +kernel
theorem dX2_soonest_38 : decode cX2_soonest 38 = .ok (.iload_n 3, 1) := by decide +kernel
theorem dX2_soonest_39 : decode cX2_soonest 39 = .ok (.istore_n 1, 1) := by decide +kernel
theorem dX2_soonest_40 : decode cX2_soonest 40 = .ok (.iload 4, 2) := by decide +kernel
theorem dX2_soonest_42 : decode cX2_soonest 42 = .ok (.istore_n 2, 1) := by decide +kernel
theorem dX2_soonest_43 : decode cX2_soonest 43 = .ok (.iinc 3 1, 3) := by decide +kernel
theorem dX2_soonest_46 : decode cX2_soonest 46 = .ok (.goto (-40), 3) := by decide +kernel
theorem dX2_soonest_49 : decode cX2_soonest 49 = .ok (.iload_n 1, 1) := by decide +kernel
theorem dX2_soonest_50 : decode cX2_soonest 50 = .ok (.ireturn, 1) := by decide +kernel
set_option maxRecDepth 20000 in
theorem ggX3_init_X1_init : GoodIn wsX3_init wsX1_init := goodIn_r _ [13, 14, 2, 3] (by decide +kernel) (by decide +kernel)
set_option maxRecDepth 20000 in
theorem gX3_init_X1_init_n11 : GoodIn wsX3_init (wsX1_init) := ggX3_init_X1_init
theorem dX3_init_0 : decode cX3_init 0 = .ok (.aload_n 0, 1) := by decide +kernel
theorem dX3_init_1 : decode cX3_init 1 = .ok (.invokespecial 3, 3) := by decide +kernel
theorem dX3_init_4 : decode cX3_init 4 = .ok (.aload_n 0, 1) := by decide +kernel
theorem dX3_init_5 : decode cX3_init 5 = .ok (.new 9, 3) := by decide +kernel
theorem dX3_init_8 : decode cX3_init 8 = .ok (.dup, 1) := by decide +kernel
theorem dX3_init_9 : decode cX3_init 9 = .ok (.invokespecial 11, 3) := by decide +kernel
theorem dX3_init_12 : decode cX3_init 12 = .ok (.putfield 12, 3) := by decide +kernel
theorem dX3_init_15 : decode cX3_init 15 = .ok (.aload_n 0, 1) := by decide +kernel
theorem dX3_init_16 : decode cX3_init 16 = .ok (.bipush 60, 2) := by decide +kernel
theorem dX3_init_18 : decode cX3_init 18 = .ok (.newarray .int, 2) := by decide +kernel
theorem dX3_init_20 : decode cX3_init 20 = .ok (.putfield 18, 3) := by decide +kernel
theorem dX3_init_23 : decode cX3_init 23 = .ok (.aload_n 0, 1) := by decide +kernel
theorem dX3_init_24 : decode cX3_init 24 = .ok (.bipush 60, 2) := by decide +kernel
theorem dX3_init_26 : decode cX3_init 26 = .ok (.newarray .boolean, 2) := by decide +kernel
theorem dX3_init_28 : decode cX3_init 28 = .ok (.putfield 22, 3) := by decide +kernel
theorem dX3_init_31 : decode cX3_init 31 = .ok (.return_, 1) := by decide +kernel
set_option maxRecDepth 20000 in
theorem ggX3_begin_X3_writeDown : GoodIn wsX3_begin wsX3_writeDown := goodIn_r _ [18, 12, 19, 3, 4, 5, 20, 21, 22, 23, 24, 25, 26, 27, 28, 29, 30, 31, 32, 33, 34, 35, 36, 37, 38] (by decide +kernel) (by decide +kernel)
set_option maxRecDepth 20000 in
theorem gX3_begin_X3_writeDown : GoodIn wsX3_begin (wsV RX3 64 RX3 yX3_writeDown wsX3_writeDown) := goodIn_app (goodIn_of _ (by decide +kernel)) ggX3_begin_X3_writeDown
theorem dX3_begin_0 : decode cX3_begin 0 = .ok (.aload_n 0, 1) := by decide +kernel
theorem dX3_begin_1 : decode cX3_begin 1 = .ok (.iload_n 1, 1) := by decide +kernel
theorem dX3_begin_2 : decode cX3_begin 2 = .ok (.putfield 26, 3) := by decide +kernel
theorem dX3_begin_5 : decode cX3_begin 5 = .ok (.aload_n 0, 1) := by decide +kernel
theorem dX3_begin_6 : decode cX3_begin 6 = .ok (.iload_n 2, 1) := by decide +kernel
theorem dX3_begin_7 : decode cX3_begin 7 = .ok (.putfield 30, 3) := by decide +kernel
theorem dX3_begin_10 : decode cX3_begin 10 = .ok (.aload_n 0, 1) := by decide +kernel
theorem dX3_begin_11 : decode cX3_begin 11 = .ok (.getfield 12, 3) := by decide +kernel
theorem dX3_begin_14 : decode cX3_begin 14 = .ok (.iload_n 1, 1) := by decide +kernel
theorem dX3_begin_15 : decode cX3_begin 15 = .ok (.putfield 33, 3) := by decide +kernel
theorem dX3_begin_18 : decode cX3_begin 18 = .ok (.aload_n 0, 1) := by decide +kernel
theorem dX3_begin_19 : decode cX3_begin 19 = .ok (.getfield 12, 3) := by decide +kernel
theorem dX3_begin_22 : decode cX3_begin 22 = .ok (.iconst 1, 1) := by decide +kernel
theorem dX3_begin_23 : decode cX3_begin 23 = .ok (.putfield 36, 3) := by decide +kernel
theorem dX3_begin_26 : decode cX3_begin 26 = .ok (.aload_n 0, 1) := by decide +kernel
theorem dX3_begin_27 : decode cX3_begin 27 = .ok (.getfield 12, 3) := by decide +kernel
theorem dX3_begin_30 : decode cX3_begin 30 = .ok (.iload_n 2, 1) := by decide +kernel
theorem dX3_begin_31 : decode cX3_begin 31 = .ok (.putfield 39, 3) := by decide +kernel
theorem dX3_begin_34 : decode cX3_begin 34 = .ok (.aload_n 0, 1) := by decide +kernel
theorem dX3_begin_35 : decode cX3_begin 35 = .ok (.getfield 12, 3) := by decide +kernel
theorem dX3_begin_38 : decode cX3_begin 38 = .ok (.iload_n 3, 1) := by decide +kernel
theorem dX3_begin_39 : decode cX3_begin 39 = .ok (.putfield 42, 3) := by decide +kernel
theorem dX3_begin_42 : decode cX3_begin 42 = .ok (.aload_n 0, 1) := by decide +kernel
theorem dX3_begin_43 : decode cX3_begin 43 = .ok (.getfield 12, 3) := by decide +kernel
theorem dX3_begin_46 : decode cX3_begin 46 = .ok (.iload 4, 2) := by decide +kernel
theorem dX3_begin_48 : decode cX3_begin 48 = .ok (.putfield 45, 3) := by decide +kernel
theorem dX3_begin_51 : decode cX3_begin 51 = .ok (.aload_n 0, 1) := by decide +kernel
theorem dX3_begin_52 : decode cX3_begin 52 = .ok (.getfield 12, 3) := by decide +kernel
theorem dX3_begin_55 : decode cX3_begin 55 = .ok (.iload 5, 2) := by decide +kernel
theorem dX3_begin_57 : decode cX3_begin 57 = .ok (.putfield 48, 3) := by decide +kernel
theorem dX3_begin_60 : decode cX3_begin 60 = .ok (.aload_n 0, 1) := by decide +kernel
theorem dX3_begin_61 : decode cX3_begin 61 = .ok (.getfield 12, 3) := by decide +kernel
theorem dX3_begin_64 : decode cX3_begin 64 = .ok (.iconst 0, 1) := by decide +kernel
theorem dX3_begin_65 : decode cX3_begin 65 = .ok (.putfield 51, 3) := by decide +kernel
theorem dX3_begin_68 : decode cX3_begin 68 = .ok (.aload_n 0, 1) := by decide +kernel
theorem dX3_begin_69 : decode cX3_begin 69 = .ok (.getfield 12, 3) := by decide +kernel
theorem dX3_begin_72 : decode cX3_begin 72 = .ok (.iconst 0, 1) := by decide +kernel
theorem dX3_begin_73 : decode cX3_begin 73 = .ok (.putfield 54, 3) := by decide +kernel
theorem dX3_begin_76 : decode cX3_begin 76 = .ok (.aload_n 0, 1) := by decide +kernel
theorem dX3_begin_77 : decode cX3_begin 77 = .ok (.iconst 0, 1) := by decide +kernel
theorem dX3_begin_78 : decode cX3_begin 78 = .ok (.putfield 58, 3) := by decide +kernel
theorem dX3_begin_81 : decode cX3_begin 81 = .ok (.aload_n 0, 1) := by decide +kernel
theorem dX3_begin_82 : decode cX3_begin 82 = .ok (.iconst 0, 1) := by decide +kernel
theorem dX3_begin_83 : decode cX3_begin 83 = .ok (.putfield 61, 3) := by decide +kernel
theorem dX3_begin_86 : decode cX3_begin 86 = .ok (.aload_n 0, 1) := by decide +kernel
theorem dX3_begin_87 : decode cX3_begin 87 = .ok (.invokevirtual 64, 3) := by decide +kernel
theorem dX3_begin_90 : decode cX3_begin 90 = .ok (.return_, 1) := by decide +kernel
set_option maxRecDepth 20000 in
theorem ggX3_writeDown_X9_placeOf : GoodIn wsX3_writeDown wsX9_placeOf := goodIn_r _ [9] (by decide +kernel) (by decide +kernel)
set_option maxRecDepth 20000 in
theorem gX3_writeDown_X9_placeOf_n67 : GoodIn wsX3_writeDown (wsX9_placeOf) := ggX3_writeDown_X9_placeOf
theorem dX3_writeDown_0 : decode cX3_writeDown 0 = .ok (.aload_n 0, 1) := by decide +kernel
theorem dX3_writeDown_1 : decode cX3_writeDown 1 = .ok (.getfield 58, 3) := by decide +kernel
theorem dX3_writeDown_4 : decode cX3_writeDown 4 = .ok (.bipush 60, 2) := by decide +kernel
theorem dX3_writeDown_6 : decode cX3_writeDown 6 = .ok (.if_icmp .ge 49, 3) := by decide +kernel
theorem dX3_writeDown_9 : decode cX3_writeDown 9 = .ok (.aload_n 0, 1) := by decide +kernel
theorem dX3_writeDown_10 : decode cX3_writeDown 10 = .ok (.getfield 18, 3) := by decide +kernel
theorem dX3_writeDown_13 : decode cX3_writeDown 13 = .ok (.aload_n 0, 1) := by decide +kernel
theorem dX3_writeDown_14 : decode cX3_writeDown 14 = .ok (.getfield 58, 3) := by decide +kernel
theorem dX3_writeDown_17 : decode cX3_writeDown 17 = .ok (.aload_n 0, 1) := by decide +kernel
theorem dX3_writeDown_18 : decode cX3_writeDown 18 = .ok (.getfield 12, 3) := by decide +kernel
theorem dX3_writeDown_21 : decode cX3_writeDown 21 = .ok (.getfield 33, 3) := by decide +kernel
theorem dX3_writeDown_24 : decode cX3_writeDown 24 = .ok (.aload_n 0, 1) := by decide +kernel
theorem dX3_writeDown_25 : decode cX3_writeDown 25 = .ok (.getfield 12, 3) := by decide +kernel
theorem dX3_writeDown_28 : decode cX3_writeDown 28 = .ok (.getfield 36, 3) := by decide +kernel
theorem dX3_writeDown_31 : decode cX3_writeDown 31 = .ok (.invokestatic 67, 3) := by decide +kernel
theorem dX3_writeDown_34 : decode cX3_writeDown 34 = .ok (.iastore, 1) := by decide +kernel
theorem dX3_writeDown_35 : decode cX3_writeDown 35 = .ok (.aload_n 0, 1) := by decide +kernel
theorem dX3_writeDown_36 : decode cX3_writeDown 36 = .ok (.getfield 22, 3) := by decide +kernel
theorem dX3_writeDown_39 : decode cX3_writeDown 39 = .ok (.aload_n 0, 1) := by decide +kernel
theorem dX3_writeDown_40 : decode cX3_writeDown 40 = .ok (.getfield 58, 3) := by decide +kernel
theorem dX3_writeDown_43 : decode cX3_writeDown 43 = .ok (.iconst 0, 1) := by decide +kernel
theorem dX3_writeDown_44 : decode cX3_writeDown 44 = .ok (.bastore, 1) := by decide +kernel
theorem dX3_writeDown_45 : decode cX3_writeDown 45 = .ok (.aload_n 0, 1) := by decide +kernel
theorem dX3_writeDown_46 : decode cX3_writeDown 46 = .ok (.dup, 1) := by decide +kernel
theorem dX3_writeDown_47 : decode cX3_writeDown 47 = .ok (.getfield 58, 3) := by decide +kernel
theorem dX3_writeDown_50 : decode cX3_writeDown 50 = .ok (.iconst 1, 1) := by decide +kernel
theorem dX3_writeDown_51 : decode cX3_writeDown 51 = .ok (.iadd, 1) := by decide +kernel
theorem dX3_writeDown_52 : decode cX3_writeDown 52 = .ok (.putfield 58, 3) := by decide +kernel
theorem dX3_writeDown_55 : decode cX3_writeDown 55 = .ok (.return_, 1) := by decide +kernel
theorem dX3_forget_0 : decode cX3_forget 0 = .ok (.iconst 0, 1) := by decide +kernel
theorem dX3_forget_1 : decode cX3_forget 1 = .ok (.istore_n 3, 1) := by decide +kernel
theorem dX3_forget_2 : decode cX3_forget 2 = .ok (.iload_n 2, 1) := by decide +kernel
theorem dX3_forget_3 : decode cX3_forget 3 = .ok (.aload_n 0, 1) := by decide +kernel
theorem dX3_forget_4 : decode cX3_forget 4 = .ok (.getfield 58, 3) := by decide +kernel
theorem dX3_forget_7 : decode cX3_forget 7 = .ok (.iconst 1, 1) := by decide +kernel
theorem dX3_forget_8 : decode cX3_forget 8 = .ok (.isub, 1) := by decide +kernel
theorem dX3_forget_9 : decode cX3_forget 9 = .ok (.invokestatic 71, 3) := by decide +kernel
theorem dX3_forget_12 : decode cX3_forget 12 = .ok (.istore 4, 2) := by decide +kernel
theorem dX3_forget_14 : decode cX3_forget 14 = .ok (.iload_n 1, 1) := by decide +kernel
theorem dX3_forget_15 : decode cX3_forget 15 = .ok (.istore 5, 2) := by decide +kernel
theorem dX3_forget_17 : decode cX3_forget 17 = .ok (.iload 5, 2) := by decide +kernel
theorem dX3_forget_19 : decode cX3_forget 19 = .ok (.iload 4, 2) := by decide +kernel
theorem dX3_forget_21 : decode cX3_forget 21 = .ok (.if_icmp .gt 30, 3) := by decide +kernel
theorem dX3_forget_24 : decode cX3_forget 24 = .ok (.aload_n 0, 1) := by decide +kernel
theorem dX3_forget_25 : decode cX3_forget 25 = .ok (.getfield 22, 3) := by decide +kernel
theorem dX3_forget_28 : decode cX3_forget 28 = .ok (.iload 5, 2) := by decide +kernel
theorem dX3_forget_30 : decode cX3_forget 30 = .ok (.baload, 1) := by decide +kernel
theorem dX3_forget_31 : decode cX3_forget 31 = .ok (.ifCond .ne 14, 3) := by decide +kernel
theorem dX3_forget_34 : decode cX3_forget 34 = .ok (.aload_n 0, 1) := by decide +kernel
theorem dX3_forget_35 : decode cX3_forget 35 = .ok (.getfield 22, 3) := by decide +kernel
theorem dX3_forget_38 : decode cX3_forget 38 = .ok (.iload 5, 2) := by decide +kernel
theorem dX3_forget_40 : decode cX3_forget 40 = .ok (.iconst 1, 1) := by decide +kernel
theorem dX3_forget_41 : decode cX3_forget 41 = .ok (.bastore, 1) := by decide +kernel
theorem dX3_forget_42 : decode cX3_forget 42 = .ok (.iinc 3 1, 3) := by decide +kernel
theorem dX3_forget_45 : decode cX3_forget 45 = .ok (.iinc 5 1, 3) := by decide +kernel
theorem dX3_forget_48 : decode cX3_forget 48 = .ok (.goto (-31), 3) := by decide +kernel
theorem dX3_forget_51 : decode cX3_forget 51 = .ok (.aload_n 0, 1) := by decide +kernel
theorem dX3_forget_52 : decode cX3_forget 52 = .ok (.dup, 1) := by decide +kernel
theorem dX3_forget_53 : decode cX3_forget 53 = .ok (.getfield 61, 3) := by decide +kernel
theorem dX3_forget_56 : decode cX3_forget 56 = .ok (.iload_n 3, 1) := by decide +kernel
theorem dX3_forget_57 : decode cX3_forget 57 = .ok (.iadd, 1) := by decide +kernel
theorem dX3_forget_58 : decode cX3_forget 58 = .ok (.putfield 61, 3) := by decide +kernel
theorem dX3_forget_61 : decode cX3_forget 61 = .ok (.iload_n 3, 1) := by decide +kernel
theorem dX3_forget_62 : decode cX3_forget 62 = .ok (.ireturn, 1) := by decide +kernel
set_option maxRecDepth 20000 in
theorem ggX3_flown_X9_squareBetween : GoodIn wsX3_flown wsX9_squareBetween := goodIn_r _ [6, 7, 8, 5, 9, 10, 11, 12] (by decide +kernel) (by decide +kernel)
set_option maxRecDepth 20000 in
theorem gX3_flown_X9_squareBetween_n76 : GoodIn wsX3_flown (wsX9_squareBetween) := ggX3_flown_X9_squareBetween
theorem dX3_flown_0 : decode cX3_flown 0 = .ok (.sipush 10000, 3) := by decide +kernel
theorem dX3_flown_3 : decode cX3_flown 3 = .ok (.aload_n 0, 1) := by decide +kernel
theorem dX3_flown_4 : decode cX3_flown 4 = .ok (.getfield 26, 3) := by decide +kernel
theorem dX3_flown_7 : decode cX3_flown 7 = .ok (.aload_n 0, 1) := by decide +kernel
theorem dX3_flown_8 : decode cX3_flown 8 = .ok (.getfield 12, 3) := by decide +kernel
theorem dX3_flown_11 : decode cX3_flown 11 = .ok (.getfield 33, 3) := by decide +kernel
theorem dX3_flown_14 : decode cX3_flown 14 = .ok (.invokestatic 76, 3) := by decide +kernel
theorem dX3_flown_17 : decode cX3_flown 17 = .ok (.imul, 1) := by decide +kernel
theorem dX3_flown_18 : decode cX3_flown 18 = .ok (.istore_n 1, 1) := by decide +kernel
theorem dX3_flown_19 : decode cX3_flown 19 = .ok (.iconst 0, 1) := by decide +kernel
theorem dX3_flown_20 : decode cX3_flown 20 = .ok (.istore_n 2, 1) := by decide +kernel
theorem dX3_flown_21 : decode cX3_flown 21 = .ok (.sipush 2048, 3) := by decide +kernel
theorem dX3_flown_24 : decode cX3_flown 24 = .ok (.istore_n 3, 1) := by decide +kernel
theorem dX3_flown_25 : decode cX3_flown 25 = .ok (.iload_n 3, 1) := by decide +kernel
theorem dX3_flown_26 : decode cX3_flown 26 = .ok (.ifCond .le 27, 3) := by decide +kernel
theorem dX3_flown_29 : decode cX3_flown 29 = .ok (.iload_n 2, 1) := by decide +kernel
theorem dX3_flown_30 : decode cX3_flown 30 = .ok (.iload_n 3, 1) := by decide +kernel
theorem dX3_flown_31 : decode cX3_flown 31 = .ok (.iadd, 1) := by decide +kernel
theorem dX3_flown_32 : decode cX3_flown 32 = .ok (.istore 4, 2) := by decide +kernel
theorem dX3_flown_34 : decode cX3_flown 34 = .ok (.iload 4, 2) := by decide +kernel
theorem dX3_flown_36 : decode cX3_flown 36 = .ok (.iload 4, 2) := by decide +kernel
theorem dX3_flown_38 : decode cX3_flown 38 = .ok (.imul, 1) := by decide +kernel
theorem dX3_flown_39 : decode cX3_flown 39 = .ok (.iload_n 1, 1) := by decide +kernel
theorem dX3_flown_40 : decode cX3_flown 40 = .ok (.if_icmp .gt 6, 3) := by decide +kernel
theorem dX3_flown_43 : decode cX3_flown 43 = .ok (.iload 4, 2) := by decide +kernel
theorem dX3_flown_45 : decode cX3_flown 45 = .ok (.istore_n 2, 1) := by decide +kernel
theorem dX3_flown_46 : decode cX3_flown 46 = .ok (.iload_n 3, 1) := by decide +kernel
theorem dX3_flown_47 : decode cX3_flown 47 = .ok (.iconst 2, 1) := by decide +kernel
theorem dX3_flown_48 : decode cX3_flown 48 = .ok (.idiv, 1) := by decide +kernel
theorem dX3_flown_49 : decode cX3_flown 49 = .ok (.istore_n 3, 1) := by decide +kernel
theorem dX3_flown_50 : decode cX3_flown 50 = .ok (.goto (-25), 3) := by decide +kernel
theorem dX3_flown_53 : decode cX3_flown 53 = .ok (.iload_n 2, 1) := by decide +kernel
theorem dX3_flown_54 : decode cX3_flown 54 = .ok (.ireturn, 1) := by decide +kernel
theorem dX4_init_0 : decode cX4_init 0 = .ok (.aload_n 0, 1) := by decide +kernel
theorem dX4_init_1 : decode cX4_init 1 = .ok (.invokespecial 3, 3) := by decide +kernel
theorem dX4_init_4 : decode cX4_init 4 = .ok (.aload_n 0, 1) := by decide +kernel
theorem dX4_init_5 : decode cX4_init 5 = .ok (.sipush 4608, 3) := by decide +kernel
theorem dX4_init_8 : decode cX4_init 8 = .ok (.newarray .int, 2) := by decide +kernel
theorem dX4_init_10 : decode cX4_init 10 = .ok (.putfield 9, 3) := by decide +kernel
theorem dX4_init_13 : decode cX4_init 13 = .ok (.aload_n 0, 1) := by decide +kernel
theorem dX4_init_14 : decode cX4_init 14 = .ok (.sipush 4608, 3) := by decide +kernel
theorem dX4_init_17 : decode cX4_init 17 = .ok (.newarray .int, 2) := by decide +kernel
theorem dX4_init_19 : decode cX4_init 19 = .ok (.putfield 15, 3) := by decide +kernel
theorem dX4_init_22 : decode cX4_init 22 = .ok (.aload_n 0, 1) := by decide +kernel
theorem dX4_init_23 : decode cX4_init 23 = .ok (.sipush 4608, 3) := by decide +kernel
theorem dX4_init_26 : decode cX4_init 26 = .ok (.newarray .int, 2) := by decide +kernel
theorem dX4_init_28 : decode cX4_init 28 = .ok (.putfield 18, 3) := by decide +kernel
theorem dX4_init_31 : decode cX4_init 31 = .ok (.aload_n 0, 1) := by decide +kernel
theorem dX4_init_32 : decode cX4_init 32 = .ok (.iconst 0, 1) := by decide +kernel
theorem dX4_init_33 : decode cX4_init 33 = .ok (.putfield 21, 3) := by decide +kernel
theorem dX4_init_36 : decode cX4_init 36 = .ok (.return_, 1) := by decide +kernel
theorem dX4_clear_0 : decode cX4_clear 0 = .ok (.iconst 0, 1) := by decide +kernel
theorem dX4_clear_1 : decode cX4_clear 1 = .ok (.istore_n 1, 1) := by decide +kernel
theorem dX4_clear_2 : decode cX4_clear 2 = .ok (.iload_n 1, 1) := by decide +kernel
theorem dX4_clear_3 : decode cX4_clear 3 = .ok (.aload_n 0, 1) := by decide +kernel
theorem dX4_clear_4 : decode cX4_clear 4 = .ok (.getfield 21, 3) := by decide +kernel
theorem dX4_clear_7 : decode cX4_clear 7 = .ok (.if_icmp .ge 33, 3) := by decide +kernel
theorem dX4_clear_10 : decode cX4_clear 10 = .ok (.aload_n 0, 1) := by decide +kernel
theorem dX4_clear_11 : decode cX4_clear 11 = .ok (.getfield 15, 3) := by decide +kernel
theorem dX4_clear_14 : decode cX4_clear 14 = .ok (.aload_n 0, 1) := by decide +kernel
theorem dX4_clear_15 : decode cX4_clear 15 = .ok (.getfield 9, 3) := by decide +kernel
theorem dX4_clear_18 : decode cX4_clear 18 = .ok (.iload_n 1, 1) := by decide +kernel
theorem dX4_clear_19 : decode cX4_clear 19 = .ok (.iaload, 1) := by decide +kernel
theorem dX4_clear_20 : decode cX4_clear 20 = .ok (.iconst 0, 1) := by decide +kernel
theorem dX4_clear_21 : decode cX4_clear 21 = .ok (.iastore, 1) := by decide +kernel
theorem dX4_clear_22 : decode cX4_clear 22 = .ok (.aload_n 0, 1) := by decide +kernel
theorem dX4_clear_23 : decode cX4_clear 23 = .ok (.getfield 18, 3) := by decide +kernel
theorem dX4_clear_26 : decode cX4_clear 26 = .ok (.aload_n 0, 1) := by decide +kernel
theorem dX4_clear_27 : decode cX4_clear 27 = .ok (.getfield 9, 3) := by decide +kernel
theorem dX4_clear_30 : decode cX4_clear 30 = .ok (.iload_n 1, 1) := by decide +kernel
theorem dX4_clear_31 : decode cX4_clear 31 = .ok (.iaload, 1) := by decide +kernel
theorem dX4_clear_32 : decode cX4_clear 32 = .ok (.iconst 0, 1) := by decide +kernel
theorem dX4_clear_33 : decode cX4_clear 33 = .ok (.iastore, 1) := by decide +kernel
theorem dX4_clear_34 : decode cX4_clear 34 = .ok (.iinc 1 1, 3) := by decide +kernel
theorem dX4_clear_37 : decode cX4_clear 37 = .ok (.goto (-35), 3) := by decide +kernel
theorem dX4_clear_40 : decode cX4_clear 40 = .ok (.aload_n 0, 1) := by decide +kernel
theorem dX4_clear_41 : decode cX4_clear 41 = .ok (.iconst 0, 1) := by decide +kernel
theorem dX4_clear_42 : decode cX4_clear 42 = .ok (.putfield 21, 3) := by decide +kernel
theorem dX4_clear_45 : decode cX4_clear 45 = .ok (.return_, 1) := by decide +kernel
theorem dX4_add_0 : decode cX4_add 0 = .ok (.aload_n 0, 1) := by decide +kernel
theorem dX4_add_1 : decode cX4_add 1 = .ok (.getfield 15, 3) := by decide +kernel
theorem dX4_add_4 : decode cX4_add 4 = .ok (.iload_n 1, 1) := by decide +kernel
theorem dX4_add_5 : decode cX4_add 5 = .ok (.iaload, 1) := by decide +kernel
theorem dX4_add_6 : decode cX4_add 6 = .ok (.ifCond .ne 42, 3) := by decide +kernel
theorem dX4_add_9 : decode cX4_add 9 = .ok (.aload_n 0, 1) := by decide +kernel
theorem dX4_add_10 : decode cX4_add 10 = .ok (.getfield 18, 3) := by decide +kernel
theorem dX4_add_13 : decode cX4_add 13 = .ok (.iload_n 1, 1) := by decide +kernel
theorem dX4_add_14 : decode cX4_add 14 = .ok (.iaload, 1) := by decide +kernel
theorem dX4_add_15 : decode cX4_add 15 = .ok (.ifCond .ne 33, 3) := by decide +kernel
theorem dX4_add_18 : decode cX4_add 18 = .ok (.aload_n 0, 1) := by decide +kernel
theorem dX4_add_19 : decode cX4_add 19 = .ok (.getfield 21, 3) := by decide +kernel
theorem dX4_add_22 : decode cX4_add 22 = .ok (.sipush 4608, 3) := by decide +kernel
theorem dX4_add_25 : decode cX4_add 25 = .ok (.if_icmp .ge 23, 3) := by decide +kernel
theorem dX4_add_28 : decode cX4_add 28 = .ok (.aload_n 0, 1) := by decide +kernel
theorem dX4_add_29 : decode cX4_add 29 = .ok (.getfield 9, 3) := by decide +kernel
theorem dX4_add_32 : decode cX4_add 32 = .ok (.aload_n 0, 1) := by decide +kernel
theorem dX4_add_33 : decode cX4_add 33 = .ok (.getfield 21, 3) := by decide +kernel
theorem dX4_add_36 : decode cX4_add 36 = .ok (.iload_n 1, 1) := by decide +kernel
theorem dX4_add_37 : decode cX4_add 37 = .ok (.iastore, 1) := by decide +kernel
theorem dX4_add_38 : decode cX4_add 38 = .ok (.aload_n 0, 1) := by decide +kernel
theorem dX4_add_39 : decode cX4_add 39 = .ok (.dup, 1) := by decide +kernel
theorem dX4_add_40 : decode cX4_add 40 = .ok (.getfield 21, 3) := by decide +kernel
theorem dX4_add_43 : decode cX4_add 43 = .ok (.iconst 1, 1) := by decide +kernel
theorem dX4_add_44 : decode cX4_add 44 = .ok (.iadd, 1) := by decide +kernel
theorem dX4_add_45 : decode cX4_add 45 = .ok (.putfield 21, 3) := by decide +kernel
theorem dX4_add_48 : decode cX4_add 48 = .ok (.aload_n 0, 1) := by decide +kernel
theorem dX4_add_49 : decode cX4_add 49 = .ok (.getfield 15, 3) := by decide +kernel
theorem dX4_add_52 : decode cX4_add 52 = .ok (.iload_n 1, 1) := by decide +kernel
theorem dX4_add_53 : decode cX4_add 53 = .ok (.ldc 25, 2) := by decide +kernel
theorem dX4_add_55 : decode cX4_add 55 = .ok (.aload_n 0, 1) := by decide +kernel
theorem dX4_add_56 : decode cX4_add 56 = .ok (.getfield 15, 3) := by decide +kernel
theorem dX4_add_59 : decode cX4_add 59 = .ok (.iload_n 1, 1) := by decide +kernel
theorem dX4_add_60 : decode cX4_add 60 = .ok (.iaload, 1) := by decide +kernel
theorem dX4_add_61 : decode cX4_add 61 = .ok (.iload_n 2, 1) := by decide +kernel
theorem dX4_add_62 : decode cX4_add 62 = .ok (.iadd, 1) := by decide +kernel
theorem dX4_add_63 : decode cX4_add 63 = .ok (.invokestatic 26, 3) := by decide +kernel
theorem dX4_add_66 : decode cX4_add 66 = .ok (.iastore, 1) := by decide +kernel
theorem dX4_add_67 : decode cX4_add 67 = .ok (.aload_n 0, 1) := by decide +kernel
theorem dX4_add_68 : decode cX4_add 68 = .ok (.getfield 18, 3) := by decide +kernel
theorem dX4_add_71 : decode cX4_add 71 = .ok (.iload_n 1, 1) := by decide +kernel
theorem dX4_add_72 : decode cX4_add 72 = .ok (.ldc 25, 2) := by decide +kernel
theorem dX4_add_74 : decode cX4_add 74 = .ok (.aload_n 0, 1) := by decide +kernel
theorem dX4_add_75 : decode cX4_add 75 = .ok (.getfield 18, 3) := by decide +kernel
theorem dX4_add_78 : decode cX4_add 78 = .ok (.iload_n 1, 1) := by decide +kernel
theorem dX4_add_79 : decode cX4_add 79 = .ok (.iaload, 1) := by decide +kernel
theorem dX4_add_80 : decode cX4_add 80 = .ok (.iload_n 3, 1) := by decide +kernel
theorem dX4_add_81 : decode cX4_add 81 = .ok (.iadd, 1) := by decide +kernel
theorem dX4_add_82 : decode cX4_add 82 = .ok (.invokestatic 26, 3) := by decide +kernel
theorem dX4_add_85 : decode cX4_add 85 = .ok (.iastore, 1) := by decide +kernel
theorem dX4_add_86 : decode cX4_add 86 = .ok (.return_, 1) := by decide +kernel
theorem dX5_init_0 : decode cX5_init 0 = .ok (.aload_n 0, 1) := by decide +kernel
theorem dX5_init_1 : decode cX5_init 1 = .ok (.invokespecial 3, 3) := by decide +kernel
theorem dX5_init_4 : decode cX5_init 4 = .ok (.aload_n 0, 1) := by decide +kernel
theorem dX5_init_5 : decode cX5_init 5 = .ok (.bipush 12, 2) := by decide +kernel
theorem dX5_init_7 : decode cX5_init 7 = .ok (.putfield 9, 3) := by decide +kernel
theorem dX5_init_10 : decode cX5_init 10 = .ok (.aload_n 0, 1) := by decide +kernel
theorem dX5_init_11 : decode cX5_init 11 = .ok (.bipush 12, 2) := by decide +kernel
theorem dX5_init_13 : decode cX5_init 13 = .ok (.putfield 15, 3) := by decide +kernel
theorem dX5_init_16 : decode cX5_init 16 = .ok (.aload_n 0, 1) := by decide +kernel
theorem dX5_init_17 : decode cX5_init 17 = .ok (.sipush 576, 3) := by decide +kernel
theorem dX5_init_20 : decode cX5_init 20 = .ok (.newarray .int, 2) := by decide +kernel
theorem dX5_init_22 : decode cX5_init 22 = .ok (.putfield 18, 3) := by decide +kernel
theorem dX5_init_25 : decode cX5_init 25 = .ok (.return_, 1) := by decide +kernel
set_option maxRecDepth 20000 in
theorem ggX5_clear_J7_fill_53178 : GoodIn wsX5_clear wsJ7_fill_53178 := goodIn_r _ [7] (by decide +kernel) (by decide +kernel)
set_option maxRecDepth 20000 in
theorem gX5_clear_J7_fill_53178 : GoodIn wsX5_clear (va_wsS RX5 22 yJ7_fill_53178 wsJ7_fill_53178) := goodIn_app (goodIn_of _ (by decide +kernel)) ggX5_clear_J7_fill_53178
theorem dX5_clear_0 : decode cX5_clear 0 = .ok (.aload_n 0, 1) := by decide +kernel
theorem dX5_clear_1 : decode cX5_clear 1 = .ok (.iload_n 1, 1) := by decide +kernel
theorem dX5_clear_2 : decode cX5_clear 2 = .ok (.putfield 9, 3) := by decide +kernel
theorem dX5_clear_5 : decode cX5_clear 5 = .ok (.aload_n 0, 1) := by decide +kernel
theorem dX5_clear_6 : decode cX5_clear 6 = .ok (.iload_n 2, 1) := by decide +kernel
theorem dX5_clear_7 : decode cX5_clear 7 = .ok (.putfield 15, 3) := by decide +kernel
theorem dX5_clear_10 : decode cX5_clear 10 = .ok (.aload_n 0, 1) := by decide +kernel
theorem dX5_clear_11 : decode cX5_clear 11 = .ok (.getfield 18, 3) := by decide +kernel
theorem dX5_clear_14 : decode cX5_clear 14 = .ok (.iconst 0, 1) := by decide +kernel
theorem dX5_clear_15 : decode cX5_clear 15 = .ok (.invokestatic 22, 3) := by decide +kernel
theorem dX5_clear_18 : decode cX5_clear 18 = .ok (.return_, 1) := by decide +kernel
set_option maxRecDepth 20000 in
theorem ggX5_has_X9_within : GoodIn wsX5_has wsX9_within := goodIn_r _ [5] (by decide +kernel) (by decide +kernel)
set_option maxRecDepth 20000 in
theorem gX5_has_X9_within_n28 : GoodIn wsX5_has (wsX9_within) := ggX5_has_X9_within
theorem dX5_has_0 : decode cX5_has 0 = .ok (.iload_n 1, 1) := by decide +kernel
theorem dX5_has_1 : decode cX5_has 1 = .ok (.iconst 0, 1) := by decide +kernel
theorem dX5_has_2 : decode cX5_has 2 = .ok (.aload_n 0, 1) := by decide +kernel
theorem dX5_has_3 : decode cX5_has 3 = .ok (.getfield 9, 3) := by decide +kernel
theorem dX5_has_6 : decode cX5_has 6 = .ok (.iconst 1, 1) := by decide +kernel
theorem dX5_has_7 : decode cX5_has 7 = .ok (.isub, 1) := by decide +kernel
theorem dX5_has_8 : decode cX5_has 8 = .ok (.invokestatic 28, 3) := by decide +kernel
theorem dX5_has_11 : decode cX5_has 11 = .ok (.ifCond .eq 21, 3) := by decide +kernel
theorem dX5_has_14 : decode cX5_has 14 = .ok (.iload_n 2, 1) := by decide +kernel
theorem dX5_has_15 : decode cX5_has 15 = .ok (.iconst 0, 1) := by decide +kernel
theorem dX5_has_16 : decode cX5_has 16 = .ok (.aload_n 0, 1) := by decide +kernel
theorem dX5_has_17 : decode cX5_has 17 = .ok (.getfield 15, 3) := by decide +kernel
theorem dX5_has_20 : decode cX5_has 20 = .ok (.iconst 1, 1) := by decide +kernel
theorem dX5_has_21 : decode cX5_has 21 = .ok (.isub, 1) := by decide +kernel
theorem dX5_has_22 : decode cX5_has 22 = .ok (.invokestatic 28, 3) := by decide +kernel
theorem dX5_has_25 : decode cX5_has 25 = .ok (.ifCond .eq 7, 3) := by decide +kernel
theorem dX5_has_28 : decode cX5_has 28 = .ok (.iconst 1, 1) := by decide +kernel
theorem dX5_has_29 : decode cX5_has 29 = .ok (.goto 4, 3) := by decide +kernel
theorem dX5_has_32 : decode cX5_has 32 = .ok (.iconst 0, 1) := by decide +kernel
theorem dX5_has_33 : decode cX5_has 33 = .ok (.ireturn, 1) := by decide +kernel
set_option maxRecDepth 20000 in
theorem ggX5_movedFrom_X9_xOf : GoodIn wsX5_movedFrom wsX9_xOf := goodIn_r _ [3] (by decide +kernel) (by decide +kernel)
set_option maxRecDepth 20000 in
theorem gX5_movedFrom_X9_xOf_n32 : GoodIn wsX5_movedFrom (wsX9_xOf) := ggX5_movedFrom_X9_xOf
set_option maxRecDepth 20000 in
theorem ggX5_movedFrom_X9_yOf : GoodIn wsX5_movedFrom wsX9_yOf := goodIn_r _ [5] (by decide +kernel) (by decide +kernel)
set_option maxRecDepth 20000 in
theorem gX5_movedFrom_X9_yOf_n36 : GoodIn wsX5_movedFrom (wsX9_yOf) := ggX5_movedFrom_X9_yOf
set_option maxRecDepth 20000 in
theorem ggX5_movedFrom_X5_has : GoodIn wsX5_movedFrom wsX5_has := goodIn_r _ [10, 11, 12, 13, 2, 14, 17, 18, 19] (by decide +kernel) (by decide +kernel)
set_option maxRecDepth 20000 in
theorem gX5_movedFrom_X5_has : GoodIn wsX5_movedFrom (wsV RX5 39 RX5 yX5_has wsX5_has) := goodIn_app (goodIn_of _ (by decide +kernel)) ggX5_movedFrom_X5_has
set_option maxRecDepth 20000 in
theorem ggX5_movedFrom_X9_cellOf : GoodIn wsX5_movedFrom wsX9_cellOf := goodIn_r _ [16] (by decide +kernel) (by decide +kernel)
set_option maxRecDepth 20000 in
theorem gX5_movedFrom_X9_cellOf_n43 : GoodIn wsX5_movedFrom (wsX9_cellOf) := ggX5_movedFrom_X9_cellOf
theorem dX5_movedFrom_0 : decode cX5_movedFrom 0 = .ok (.iload_n 1, 1) := by decide +kernel
theorem dX5_movedFrom_1 : decode cX5_movedFrom 1 = .ok (.invokestatic 32, 3) := by decide +kernel
theorem dX5_movedFrom_4 : decode cX5_movedFrom 4 = .ok (.iload_n 2, 1) := by decide +kernel
theorem dX5_movedFrom_5 : decode cX5_movedFrom 5 = .ok (.iadd, 1) := by decide +kernel
theorem dX5_movedFrom_6 : decode cX5_movedFrom 6 = .ok (.istore 4, 2) := by decide +kernel
theorem dX5_movedFrom_8 : decode cX5_movedFrom 8 = .ok (.iload_n 1, 1) := by decide +kernel
theorem dX5_movedFrom_9 : decode cX5_movedFrom 9 = .ok (.invokestatic 36, 3) := by decide +kernel
theorem dX5_movedFrom_12 : decode cX5_movedFrom 12 = .ok (.iload_n 3, 1) := by decide +kernel
theorem dX5_movedFrom_13 : decode cX5_movedFrom 13 = .ok (.iadd, 1) := by decide +kernel
theorem dX5_movedFrom_14 : decode cX5_movedFrom 14 = .ok (.istore 5, 2) := by decide +kernel
theorem dX5_movedFrom_16 : decode cX5_movedFrom 16 = .ok (.aload_n 0, 1) := by decide +kernel
theorem dX5_movedFrom_17 : decode cX5_movedFrom 17 = .ok (.iload 4, 2) := by decide +kernel
theorem dX5_movedFrom_19 : decode cX5_movedFrom 19 = .ok (.iload 5, 2) := by decide +kernel
theorem dX5_movedFrom_21 : decode cX5_movedFrom 21 = .ok (.invokevirtual 39, 3) := by decide +kernel
theorem dX5_movedFrom_24 : decode cX5_movedFrom 24 = .ok (.ifCond .eq 13, 3) := by decide +kernel
theorem dX5_movedFrom_27 : decode cX5_movedFrom 27 = .ok (.iload 4, 2) := by decide +kernel
theorem dX5_movedFrom_29 : decode cX5_movedFrom 29 = .ok (.iload 5, 2) := by decide +kernel
theorem dX5_movedFrom_31 : decode cX5_movedFrom 31 = .ok (.invokestatic 43, 3) := by decide +kernel
theorem dX5_movedFrom_34 : decode cX5_movedFrom 34 = .ok (.goto 4, 3) := by decide +kernel
theorem dX5_movedFrom_37 : decode cX5_movedFrom 37 = .ok (.iload_n 1, 1) := by decide +kernel
theorem dX5_movedFrom_38 : decode cX5_movedFrom 38 = .ok (.ireturn, 1) := by decide +kernel
theorem dX5_countClosed_0 : decode cX5_countClosed 0 = .ok (.iconst 0, 1) := by decide +kernel
theorem dX5_countClosed_1 : decode cX5_countClosed 1 = .ok (.istore_n 1, 1) := by decide +kernel
theorem dX5_countClosed_2 : decode cX5_countClosed 2 = .ok (.iconst 0, 1) := by decide +kernel
theorem dX5_countClosed_3 : decode cX5_countClosed 3 = .ok (.istore_n 2, 1) := by decide +kernel
theorem dX5_countClosed_4 : decode cX5_countClosed 4 = .ok (.iload_n 2, 1) := by decide +kernel
theorem dX5_countClosed_5 : decode cX5_countClosed 5 = .ok (.sipush 576, 3) := by decide +kernel
theorem dX5_countClosed_8 : decode cX5_countClosed 8 = .ok (.if_icmp .ge 22, 3) := by decide +kernel
theorem dX5_countClosed_11 : decode cX5_countClosed 11 = .ok (.aload_n 0, 1) := by decide +kernel
theorem dX5_countClosed_12 : decode cX5_countClosed 12 = .ok (.getfield 18, 3) := by decide +kernel
theorem dX5_countClosed_15 : decode cX5_countClosed 15 = .ok (.iload_n 2, 1) := by decide +kernel
theorem dX5_countClosed_16 : decode cX5_countClosed 16 = .ok (.iaload, 1) := by decide +kernel
theorem dX5_countClosed_17 : decode cX5_countClosed 17 = .ok (.iconst 2, 1) := by decide +kernel
theorem dX5_countClosed_18 : decode cX5_countClosed 18 = .ok (.if_icmp .ne 6, 3) := by decide +kernel
theorem dX5_countClosed_21 : decode cX5_countClosed 21 = .ok (.iinc 1 1, 3) := by decide +kernel
theorem dX5_countClosed_24 : decode cX5_countClosed 24 = .ok (.iinc 2 1, 3) := by decide +kernel
theorem dX5_countClosed_27 : decode cX5_countClosed 27 = .ok (.goto (-23), 3) := by decide +kernel
theorem dX5_countClosed_30 : decode cX5_countClosed 30 = .ok (.iload_n 1, 1) := by decide +kernel
theorem dX5_countClosed_31 : decode cX5_countClosed 31 = .ok (.ireturn, 1) := by decide +kernel
set_option maxRecDepth 20000 in
theorem ggX6_init_X1_init : GoodIn wsX6_init wsX1_init := goodIn_r _ [15, 16, 2, 3] (by decide +kernel) (by decide +kernel)
set_option maxRecDepth 20000 in
theorem gX6_init_X1_init_n36 : GoodIn wsX6_init (wsX1_init) := ggX6_init_X1_init
theorem dX6_init_0 : decode cX6_init 0 = .ok (.aload_n 0, 1) := by decide +kernel
theorem dX6_init_1 : decode cX6_init 1 = .ok (.invokespecial 3, 3) := by decide +kernel
theorem dX6_init_4 : decode cX6_init 4 = .ok (.aload_n 0, 1) := by decide +kernel
theorem dX6_init_5 : decode cX6_init 5 = .ok (.bipush 7, 2) := by decide +kernel
theorem dX6_init_7 : decode cX6_init 7 = .ok (.anewarray 9, 3) := by decide +kernel
theorem dX6_init_10 : decode cX6_init 10 = .ok (.putfield 11, 3) := by decide +kernel
theorem dX6_init_13 : decode cX6_init 13 = .ok (.aload_n 0, 1) := by decide +kernel
theorem dX6_init_14 : decode cX6_init 14 = .ok (.bipush 6, 2) := by decide +kernel
theorem dX6_init_16 : decode cX6_init 16 = .ok (.newarray .int, 2) := by decide +kernel
theorem dX6_init_18 : decode cX6_init 18 = .ok (.putfield 17, 3) := by decide +kernel
theorem dX6_init_21 : decode cX6_init 21 = .ok (.aload_n 0, 1) := by decide +kernel
theorem dX6_init_22 : decode cX6_init 22 = .ok (.bipush 6, 2) := by decide +kernel
theorem dX6_init_24 : decode cX6_init 24 = .ok (.newarray .int, 2) := by decide +kernel
theorem dX6_init_26 : decode cX6_init 26 = .ok (.putfield 21, 3) := by decide +kernel
theorem dX6_init_29 : decode cX6_init 29 = .ok (.aload_n 0, 1) := by decide +kernel
theorem dX6_init_30 : decode cX6_init 30 = .ok (.iconst 0, 1) := by decide +kernel
theorem dX6_init_31 : decode cX6_init 31 = .ok (.putfield 24, 3) := by decide +kernel
theorem dX6_init_34 : decode cX6_init 34 = .ok (.aload_n 0, 1) := by decide +kernel
theorem dX6_init_35 : decode cX6_init 35 = .ok (.aload_n 1, 1) := by decide +kernel
theorem dX6_init_36 : decode cX6_init 36 = .ok (.putfield 28, 3) := by decide +kernel
theorem dX6_init_39 : decode cX6_init 39 = .ok (.aload_n 0, 1) := by decide +kernel
theorem dX6_init_40 : decode cX6_init 40 = .ok (.aload_n 2, 1) := by decide +kernel
theorem dX6_init_41 : decode cX6_init 41 = .ok (.putfield 32, 3) := by decide +kernel
theorem dX6_init_44 : decode cX6_init 44 = .ok (.iconst 0, 1) := by decide +kernel
theorem dX6_init_45 : decode cX6_init 45 = .ok (.istore_n 3, 1) := by decide +kernel
theorem dX6_init_46 : decode cX6_init 46 = .ok (.iload_n 3, 1) := by decide +kernel
theorem dX6_init_47 : decode cX6_init 47 = .ok (.bipush 6, 2) := by decide +kernel
theorem dX6_init_49 : decode cX6_init 49 = .ok (.if_icmp .gt 22, 3) := by decide +kernel
theorem dX6_init_52 : decode cX6_init 52 = .ok (.aload_n 0, 1) := by decide +kernel
theorem dX6_init_53 : decode cX6_init 53 = .ok (.getfield 11, 3) := by decide +kernel
theorem dX6_init_56 : decode cX6_init 56 = .ok (.iload_n 3, 1) := by decide +kernel
theorem dX6_init_57 : decode cX6_init 57 = .ok (.new 9, 3) := by decide +kernel
theorem dX6_init_60 : decode cX6_init 60 = .ok (.dup, 1) := by decide +kernel
theorem dX6_init_61 : decode cX6_init 61 = .ok (.invokespecial 36, 3) := by decide +kernel
theorem dX6_init_64 : decode cX6_init 64 = .ok (.aastore, 1) := by decide +kernel
theorem dX6_init_65 : decode cX6_init 65 = .ok (.iinc 3 1, 3) := by decide +kernel
theorem dX6_init_68 : decode cX6_init 68 = .ok (.goto (-22), 3) := by decide +kernel
theorem dX6_init_71 : decode cX6_init 71 = .ok (.return_, 1) := by decide +kernel
set_option maxRecDepth 20000 in
theorem ggX6_best_X1_copyOf : GoodIn wsX6_best wsX1_copyOf := goodIn_r _ [11, 12, 13, 14, 15, 16, 17, 18, 19, 118, 119, 120, 121, 122, 123, 124, 125] (by decide +kernel) (by decide +kernel)
set_option maxRecDepth 20000 in
theorem gX6_best_X1_copyOf : GoodIn wsX6_best (wsV RX6 53 RX1 yX1_copyOf wsX1_copyOf) := goodIn_app (goodIn_of _ (by decide +kernel)) ggX6_best_X1_copyOf
set_option maxRecDepth 20000 in
theorem ggX6_best_X6_tryFrom : GoodIn wsX6_best wsX6_tryFrom := goodIn_r _ [24, 1, 6, 25, 2, 26, 27, 28, 29, 30, 31, 32, 23, 33, 34, 3, 4, 5, 35, 36, 37, 38, 39, 40, 41, 42, 43, 44, 45, 7, 8, 9, 10, 11, 12, 13, 14, 15, 16, 17, 18, 19, 46, 47, 48, 49, 50, 51, 52, 53, 54, 55, 56, 57, 58, 59, 60, 61, 62, 63, 64, 65, 66, 67, 68, 69, 70, 71, 72, 73, 74, 75, 76, 77, 78, 79, 80, 81, 82, 83, 84, 85, 86, 87, 88, 89, 90, 91, 92, 93, 94, 95, 96, 97, 98, 99, 100, 101, 102, 103, 104, 105, 106, 20, 21, 22, 107, 108, 109, 110, 111, 112, 113, 114, 115, 116, 117, 118, 119, 120, 121, 122, 123, 124, 125, 126, 127, 128, 129, 130, 131, 132, 133, 134, 135] (by decide +kernel) (by decide +kernel)
set_option maxRecDepth 20000 in
theorem gX6_best_X6_tryFrom : GoodIn wsX6_best (wsV RX6 57 RX6 yX6_tryFrom wsX6_tryFrom) := goodIn_app (goodIn_of _ (by decide +kernel)) ggX6_best_X6_tryFrom
theorem dX6_best_0 : decode cX6_best 0 = .ok (.aload_n 0, 1) := by decide +kernel
theorem dX6_best_1 : decode cX6_best 1 = .ok (.iload_n 2, 1) := by decide +kernel
theorem dX6_best_2 : decode cX6_best 2 = .ok (.putfield 37, 3) := by decide +kernel
theorem dX6_best_5 : decode cX6_best 5 = .ok (.aload_n 0, 1) := by decide +kernel
theorem dX6_best_6 : decode cX6_best 6 = .ok (.iload_n 3, 1) := by decide +kernel
theorem dX6_best_7 : decode cX6_best 7 = .ok (.putfield 40, 3) := by decide +kernel
theorem dX6_best_10 : decode cX6_best 10 = .ok (.aload_n 0, 1) := by decide +kernel
theorem dX6_best_11 : decode cX6_best 11 = .ok (.iload 4, 2) := by decide +kernel
theorem dX6_best_13 : decode cX6_best 13 = .ok (.putfield 43, 3) := by decide +kernel
theorem dX6_best_16 : decode cX6_best 16 = .ok (.aload_n 0, 1) := by decide +kernel
theorem dX6_best_17 : decode cX6_best 17 = .ok (.iload 5, 2) := by decide +kernel
theorem dX6_best_19 : decode cX6_best 19 = .ok (.putfield 46, 3) := by decide +kernel
theorem dX6_best_22 : decode cX6_best 22 = .ok (.aload_n 0, 1) := by decide +kernel
theorem dX6_best_23 : decode cX6_best 23 = .ok (.iconst (-1), 1) := by decide +kernel
theorem dX6_best_24 : decode cX6_best 24 = .ok (.putfield 50, 3) := by decide +kernel
theorem dX6_best_27 : decode cX6_best 27 = .ok (.aload_n 0, 1) := by decide +kernel
theorem dX6_best_28 : decode cX6_best 28 = .ok (.getfield 11, 3) := by decide +kernel
theorem dX6_best_31 : decode cX6_best 31 = .ok (.iconst 0, 1) := by decide +kernel
theorem dX6_best_32 : decode cX6_best 32 = .ok (.aaload, 1) := by decide +kernel
theorem dX6_best_33 : decode cX6_best 33 = .ok (.aload_n 1, 1) := by decide +kernel
theorem dX6_best_34 : decode cX6_best 34 = .ok (.invokevirtual 53, 3) := by decide +kernel
theorem dX6_best_37 : decode cX6_best 37 = .ok (.aload_n 0, 1) := by decide +kernel
theorem dX6_best_38 : decode cX6_best 38 = .ok (.iconst 0, 1) := by decide +kernel
theorem dX6_best_39 : decode cX6_best 39 = .ok (.invokevirtual 57, 3) := by decide +kernel
theorem dX6_best_42 : decode cX6_best 42 = .ok (.aload_n 0, 1) := by decide +kernel
theorem dX6_best_43 : decode cX6_best 43 = .ok (.getfield 50, 3) := by decide +kernel
theorem dX6_best_46 : decode cX6_best 46 = .ok (.ireturn, 1) := by decide +kernel
set_option maxRecDepth 20000 in
theorem ggX6_tryFrom_X6_weigh : GoodIn wsX6_tryFrom wsX6_weigh := goodIn_r _ [13, 2, 14, 15, 16, 17, 1, 18, 19, 8, 20, 21, 22, 23, 24, 25, 26, 27, 28, 106, 107, 108, 109, 110, 111, 112, 113, 114, 115, 116, 117, 118, 119, 120, 121, 122, 123, 124] (by decide +kernel) (by decide +kernel)
set_option maxRecDepth 20000 in
theorem gX6_tryFrom_X6_weigh : GoodIn wsX6_tryFrom (wsV RX6 64 RX6 yX6_weigh wsX6_weigh) := goodIn_app (goodIn_of _ (by decide +kernel)) ggX6_tryFrom_X6_weigh
set_option maxRecDepth 20000 in
theorem ggX6_tryFrom_X1_copyOf : GoodIn wsX6_tryFrom wsX1_copyOf := goodIn_r _ [33, 34, 35, 36, 37, 38, 39, 40, 41, 117, 118, 119, 120, 121, 122, 123, 124] (by decide +kernel) (by decide +kernel)
set_option maxRecDepth 20000 in
theorem gX6_tryFrom_X1_copyOf : GoodIn wsX6_tryFrom (wsV RX6 53 RX1 yX1_copyOf wsX1_copyOf) := goodIn_app (goodIn_of _ (by decide +kernel)) ggX6_tryFrom_X1_copyOf
set_option maxRecDepth 20000 in
theorem ggX6_tryFrom_X1_pass : GoodIn wsX6_tryFrom wsX1_pass := goodIn_r _ [45, 46, 35, 41, 34, 36, 47, 48, 49, 32, 50, 39, 51, 52, 53, 54, 38, 55, 56, 57, 58, 59, 60, 37, 61, 62, 63, 64, 65, 66, 67, 68, 69, 70, 71, 72, 73, 74, 75, 40, 76, 77, 78, 79, 80, 81, 82, 83, 84, 85, 86, 87, 24, 21, 25, 27, 28, 88, 89, 90, 91, 92, 93, 94, 95, 96, 97, 125, 126, 127, 128, 129, 117, 118, 119, 120, 121, 122, 123, 124, 130, 131, 132, 133, 134] (by decide +kernel) (by decide +kernel)
set_option maxRecDepth 20000 in
theorem gX6_tryFrom_X1_pass : GoodIn wsX6_tryFrom (wsV RX6 73 RX1 yX1_pass wsX1_pass) := goodIn_app (goodIn_of _ (by decide +kernel)) ggX6_tryFrom_X1_pass
set_option maxRecDepth 20000 in
theorem ggX6_tryFrom_X6_mayBe : GoodIn wsX6_tryFrom wsX6_mayBe := goodIn_r _ [101, 7, 102, 14, 3, 106, 107, 108, 109, 110, 111, 112, 113, 114, 115, 116, 132, 133, 134, 117, 118, 119, 120, 121, 122, 123, 124] (by decide +kernel) (by decide +kernel)
set_option maxRecDepth 20000 in
theorem gX6_tryFrom_X6_mayBe : GoodIn wsX6_tryFrom (wsV RX6 77 RX6 yX6_mayBe wsX6_mayBe) := goodIn_app (goodIn_of _ (by decide +kernel)) ggX6_tryFrom_X6_mayBe

set_option maxRecDepth 20000 in
theorem ggX7_init_X2_init : GoodIn wsX7_init wsX2_init := goodIn_r _ [35, 36, 2, 3, 37, 21, 22, 38, 39, 40, 41, 42, 43, 44, 45, 46, 47, 48, 109, 110, 78, 79, 80, 81, 82, 83, 84, 85, 86, 87] (by decide +kernel) (by decide +kernel)
set_option maxRecDepth 20000 in
theorem gX7_init_X2_init_n9 : GoodIn wsX7_init (wsX2_init) := ggX7_init_X2_init
set_option maxRecDepth 20000 in
theorem ggX7_init_X1_init : GoodIn wsX7_init wsX1_init := goodIn_r _ [51, 52, 2, 3, 53, 54, 5, 6, 34, 35, 36, 37, 21, 22, 38, 39, 40, 41, 42, 43, 44, 45, 46, 47, 48, 98, 99, 78, 79, 80, 81, 82, 83, 84, 85, 86, 87, 109, 110] (by decide +kernel) (by decide +kernel)
set_option maxRecDepth 20000 in
theorem gX7_init_X1_init : GoodIn wsX7_init (wsX1_init) := ggX7_init_X1_init
set_option maxRecDepth 20000 in
theorem ggX7_init_X6_init : GoodIn wsX7_init wsX6_init := goodIn_r _ [56, 57, 2, 3, 58, 59, 60, 21, 22, 61, 43, 44, 45, 46, 47, 48, 100, 101, 102, 103, 104, 105, 106, 107, 108, 109, 110] (by decide +kernel) (by decide +kernel)
set_option maxRecDepth 20000 in
theorem gX7_init_X6_init_n31 : GoodIn wsX7_init (wsX6_init) := ggX7_init_X6_init
set_option maxRecDepth 20000 in
theorem ggX7_init_X5_init : GoodIn wsX7_init wsX5_init := goodIn_r _ [44, 45, 2, 3, 46, 47, 48, 109, 110] (by decide +kernel) (by decide +kernel)
set_option maxRecDepth 20000 in
theorem gX7_init_X5_init_n44 : GoodIn wsX7_init (wsX5_init) := ggX7_init_X5_init
set_option maxRecDepth 20000 in
theorem ggX7_init_X3_init : GoodIn wsX7_init wsX3_init := goodIn_r _ [63, 64, 2, 3, 65, 66, 67, 111, 112] (by decide +kernel) (by decide +kernel)
set_option maxRecDepth 20000 in
theorem gX7_init_X3_init_n51 : GoodIn wsX7_init (wsX3_init) := ggX7_init_X3_init
set_option maxRecDepth 20000 in
theorem ggX7_init_X0_init : GoodIn wsX7_init wsX0_init := goodIn_r _ [69, 70, 2, 3, 71, 66, 72, 73, 113, 114, 115, 116] (by decide +kernel) (by decide +kernel)
set_option maxRecDepth 20000 in
theorem gX7_init_X0_init_n58 : GoodIn wsX7_init (wsX0_init) := ggX7_init_X0_init
set_option maxRecDepth 20000 in
theorem ggX7_init_X4_init : GoodIn wsX7_init wsX4_init := goodIn_r _ [75, 76, 2, 3, 66, 77, 117, 118, 119, 120] (by decide +kernel) (by decide +kernel)
set_option maxRecDepth 20000 in
theorem gX7_init_X4_init_n63 : GoodIn wsX7_init (wsX4_init) := ggX7_init_X4_init
theorem dX7_init_0 : decode cX7_init 0 = .ok (.aload_n 0, 1) := by decide +kernel
theorem dX7_init_1 : decode cX7_init 1 = .ok (.invokespecial 1, 3) := by decide +kernel
theorem dX7_init_4 : decode cX7_init 4 = .ok (.aload_n 0, 1) := by decide +kernel
theorem dX7_init_5 : decode cX7_init 5 = .ok (.new 7, 3) := by decide +kernel
theorem dX7_init_8 : decode cX7_init 8 = .ok (.dup, 1) := by decide +kernel
theorem dX7_init_9 : decode cX7_init 9 = .ok (.invokespecial 9, 3) := by decide +kernel
theorem dX7_init_12 : decode cX7_init 12 = .ok (.putfield 10, 3) := by decide +kernel
theorem dX7_init_15 : decode cX7_init 15 = .ok (.aload_n 0, 1) := by decide +kernel
theorem dX7_init_16 : decode cX7_init 16 = .ok (.new 16, 3) := by decide +kernel
theorem dX7_init_19 : decode cX7_init 19 = .ok (.dup, 1) := by decide +kernel
theorem dX7_init_20 : decode cX7_init 20 = .ok (.invokespecial 18, 3) := by decide +kernel
theorem dX7_init_23 : decode cX7_init 23 = .ok (.putfield 19, 3) := by decide +kernel
theorem dX7_init_26 : decode cX7_init 26 = .ok (.aload_n 0, 1) := by decide +kernel
theorem dX7_init_27 : decode cX7_init 27 = .ok (.new 7, 3) := by decide +kernel
theorem dX7_init_30 : decode cX7_init 30 = .ok (.dup, 1) := by decide +kernel
theorem dX7_init_31 : decode cX7_init 31 = .ok (.invokespecial 9, 3) := by decide +kernel
theorem dX7_init_34 : decode cX7_init 34 = .ok (.putfield 23, 3) := by decide +kernel
theorem dX7_init_37 : decode cX7_init 37 = .ok (.aload_n 0, 1) := by decide +kernel
theorem dX7_init_38 : decode cX7_init 38 = .ok (.new 16, 3) := by decide +kernel
theorem dX7_init_41 : decode cX7_init 41 = .ok (.dup, 1) := by decide +kernel
theorem dX7_init_42 : decode cX7_init 42 = .ok (.invokespecial 18, 3) := by decide +kernel
theorem dX7_init_45 : decode cX7_init 45 = .ok (.putfield 26, 3) := by decide +kernel
theorem dX7_init_48 : decode cX7_init 48 = .ok (.aload_n 0, 1) := by decide +kernel
theorem dX7_init_49 : decode cX7_init 49 = .ok (.new 29, 3) := by decide +kernel
theorem dX7_init_52 : decode cX7_init 52 = .ok (.dup, 1) := by decide +kernel
theorem dX7_init_53 : decode cX7_init 53 = .ok (.invokespecial 31, 3) := by decide +kernel
theorem dX7_init_56 : decode cX7_init 56 = .ok (.putfield 32, 3) := by decide +kernel
theorem dX7_init_59 : decode cX7_init 59 = .ok (.aload_n 0, 1) := by decide +kernel
theorem dX7_init_60 : decode cX7_init 60 = .ok (.iconst 4, 1) := by decide +kernel
theorem dX7_init_61 : decode cX7_init 61 = .ok (.anewarray 36, 3) := by decide +kernel
theorem dX7_init_64 : decode cX7_init 64 = .ok (.putfield 38, 3) := by decide +kernel
theorem dX7_init_67 : decode cX7_init 67 = .ok (.aload_n 0, 1) := by decide +kernel
theorem dX7_init_68 : decode cX7_init 68 = .ok (.new 42, 3) := by decide +kernel
theorem dX7_init_71 : decode cX7_init 71 = .ok (.dup, 1) := by decide +kernel
theorem dX7_init_72 : decode cX7_init 72 = .ok (.invokespecial 44, 3) := by decide +kernel
theorem dX7_init_75 : decode cX7_init 75 = .ok (.putfield 45, 3) := by decide +kernel
theorem dX7_init_78 : decode cX7_init 78 = .ok (.aload_n 0, 1) := by decide +kernel
theorem dX7_init_79 : decode cX7_init 79 = .ok (.new 49, 3) := by decide +kernel
theorem dX7_init_82 : decode cX7_init 82 = .ok (.dup, 1) := by decide +kernel
theorem dX7_init_83 : decode cX7_init 83 = .ok (.invokespecial 51, 3) := by decide +kernel
theorem dX7_init_86 : decode cX7_init 86 = .ok (.putfield 52, 3) := by decide +kernel
theorem dX7_init_89 : decode cX7_init 89 = .ok (.aload_n 0, 1) := by decide +kernel
theorem dX7_init_90 : decode cX7_init 90 = .ok (.new 56, 3) := by decide +kernel
theorem dX7_init_93 : decode cX7_init 93 = .ok (.dup, 1) := by decide +kernel
theorem dX7_init_94 : decode cX7_init 94 = .ok (.invokespecial 58, 3) := by decide +kernel
theorem dX7_init_97 : decode cX7_init 97 = .ok (.putfield 59, 3) := by decide +kernel
theorem dX7_init_100 : decode cX7_init 100 = .ok (.iconst 0, 1) := by decide +kernel
theorem dX7_init_101 : decode cX7_init 101 = .ok (.istore_n 1, 1) := by decide +kernel
theorem dX7_init_102 : decode cX7_init 102 = .ok (.iload_n 1, 1) := by decide +kernel
theorem dX7_init_103 : decode cX7_init 103 = .ok (.iconst 4, 1) := by decide +kernel
theorem dX7_init_104 : decode cX7_init 104 = .ok (.if_icmp .ge 22, 3) := by decide +kernel
theorem dX7_init_107 : decode cX7_init 107 = .ok (.aload_n 0, 1) := by decide +kernel
theorem dX7_init_108 : decode cX7_init 108 = .ok (.getfield 38, 3) := by decide +kernel
theorem dX7_init_111 : decode cX7_init 111 = .ok (.iload_n 1, 1) := by decide +kernel
theorem dX7_init_112 : decode cX7_init 112 = .ok (.new 36, 3) := by decide +kernel
theorem dX7_init_115 : decode cX7_init 115 = .ok (.dup, 1) := by decide +kernel
theorem dX7_init_116 : decode cX7_init 116 = .ok (.invokespecial 63, 3) := by decide +kernel
theorem dX7_init_119 : decode cX7_init 119 = .ok (.aastore, 1) := by decide +kernel
theorem dX7_init_120 : decode cX7_init 120 = .ok (.iinc 1 1, 3) := by decide +kernel
theorem dX7_init_123 : decode cX7_init 123 = .ok (.goto (-21), 3) := by decide +kernel
theorem dX7_init_126 : decode cX7_init 126 = .ok (.return_, 1) := by decide +kernel
set_option maxRecDepth 20000 in
theorem ggX7_weigh_X5_weightOf : GoodIn wsX7_weigh wsX5_weightOf := goodIn_r _ [10, 11, 12, 85, 86] (by decide +kernel) (by decide +kernel)
set_option maxRecDepth 20000 in
theorem gX7_weigh_X5_weightOf : GoodIn wsX7_weigh (wsV RX7 71 RX5 yX5_weightOf wsX5_weightOf) := goodIn_app (goodIn_of _ (by decide +kernel)) ggX7_weigh_X5_weightOf
set_option maxRecDepth 20000 in
theorem ggX7_weigh_X5_all : GoodIn wsX7_weigh wsX5_all := goodIn_r _ [16, 17, 18, 19, 9, 20, 11, 21, 7, 8, 10, 12, 85, 86] (by decide +kernel) (by decide +kernel)
set_option maxRecDepth 20000 in
theorem gX7_weigh_X5_all : GoodIn wsX7_weigh (wsV RX7 75 RX5 yX5_all wsX5_all) := goodIn_app (goodIn_of _ (by decide +kernel)) ggX7_weigh_X5_all
set_option maxRecDepth 20000 in
theorem ggX7_weigh_X5_mayHold : GoodIn wsX7_weigh wsX5_mayHold := goodIn_r _ [25, 11, 26, 14, 15, 9, 16, 17, 18, 19, 20, 21, 7, 8, 10, 12, 85, 86] (by decide +kernel) (by decide +kernel)
set_option maxRecDepth 20000 in
theorem gX7_weigh_X5_mayHold : GoodIn wsX7_weigh (wsV RX7 79 RX5 yX5_mayHold wsX5_mayHold) := goodIn_app (goodIn_of _ (by decide +kernel)) ggX7_weigh_X5_mayHold
set_option maxRecDepth 20000 in
theorem ggX7_weigh_X1_keep : GoodIn wsX7_weigh wsX1_keep := goodIn_r _ [31, 32, 33, 34, 35, 36, 30, 37, 38, 39, 40, 41, 42, 43, 44, 45, 46, 47, 48, 49, 50, 51, 52, 53, 54, 55, 9, 56, 11, 12, 57, 58, 59, 60, 87, 88, 75, 76, 77, 78, 79, 80, 81, 82, 83, 84, 85, 86] (by decide +kernel) (by decide +kernel)
set_option maxRecDepth 20000 in
theorem gX7_weigh_X1_keep : GoodIn wsX7_weigh (wsV RX7 83 RX1 yX1_keep wsX1_keep) := goodIn_app (goodIn_of _ (by decide +kernel)) ggX7_weigh_X1_keep
set_option maxRecDepth 20000 in
theorem ggX7_weigh_X5_put : GoodIn wsX7_weigh wsX5_put := goodIn_r _ [64, 12, 85, 86] (by decide +kernel) (by decide +kernel)
set_option maxRecDepth 20000 in
theorem gX7_weigh_X5_put : GoodIn wsX7_weigh (wsV RX7 87 RX5 yX5_put wsX5_put) := goodIn_app (goodIn_of _ (by decide +kernel)) ggX7_weigh_X5_put
theorem dX7_weigh_0 : decode cX7_weigh 0 = .ok (.aload_n 0, 1) := by decide +kernel
theorem dX7_weigh_1 : decode cX7_weigh 1 = .ok (.getfield 10, 3) := by decide +kernel
theorem dX7_weigh_4 : decode cX7_weigh 4 = .ok (.getfield 64, 3) := by decide +kernel
theorem dX7_weigh_7 : decode cX7_weigh 7 = .ok (.astore_n 3, 1) := by decide +kernel
theorem dX7_weigh_8 : decode cX7_weigh 8 = .ok (.iload_n 1, 1) := by decide +kernel
theorem dX7_weigh_9 : decode cX7_weigh 9 = .ok (.iconst 1, 1) := by decide +kernel
theorem dX7_weigh_10 : decode cX7_weigh 10 = .ok (.if_icmp .lt 21, 3) := by decide +kernel
theorem dX7_weigh_13 : decode cX7_weigh 13 = .ok (.iload_n 1, 1) := by decide +kernel
theorem dX7_weigh_14 : decode cX7_weigh 14 = .ok (.aload_n 3, 1) := by decide +kernel
theorem dX7_weigh_15 : decode cX7_weigh 15 = .ok (.getfield 67, 3) := by decide +kernel
theorem dX7_weigh_18 : decode cX7_weigh 18 = .ok (.if_icmp .gt 13, 3) := by decide +kernel
theorem dX7_weigh_21 : decode cX7_weigh 21 = .ok (.iload_n 2, 1) := by decide +kernel
theorem dX7_weigh_22 : decode cX7_weigh 22 = .ok (.ifCond .lt 9, 3) := by decide +kernel
theorem dX7_weigh_25 : decode cX7_weigh 25 = .ok (.iload_n 2, 1) := by decide +kernel
theorem dX7_weigh_26 : decode cX7_weigh 26 = .ok (.bipush 9, 2) := by decide +kernel
theorem dX7_weigh_28 : decode cX7_weigh 28 = .ok (.if_icmp .le 5, 3) := by decide +kernel
theorem dX7_weigh_31 : decode cX7_weigh 31 = .ok (.iconst (-1), 1) := by decide +kernel
theorem dX7_weigh_32 : decode cX7_weigh 32 = .ok (.ireturn, 1) := by decide +kernel
theorem dX7_weigh_33 : decode cX7_weigh 33 = .ok (.aload_n 3, 1) := by decide +kernel
theorem dX7_weigh_34 : decode cX7_weigh 34 = .ok (.iload_n 1, 1) := by decide +kernel
theorem dX7_weigh_35 : decode cX7_weigh 35 = .ok (.invokevirtual 71, 3) := by decide +kernel
theorem dX7_weigh_38 : decode cX7_weigh 38 = .ok (.istore 4, 2) := by decide +kernel
theorem dX7_weigh_40 : decode cX7_weigh 40 = .ok (.iload_n 2, 1) := by decide +kernel
theorem dX7_weigh_41 : decode cX7_weigh 41 = .ok (.iload 4, 2) := by decide +kernel
theorem dX7_weigh_43 : decode cX7_weigh 43 = .ok (.if_icmp .ne 6, 3) := by decide +kernel
theorem dX7_weigh_46 : decode cX7_weigh 46 = .ok (.bipush (-2), 2) := by decide +kernel
theorem dX7_weigh_48 : decode cX7_weigh 48 = .ok (.ireturn, 1) := by decide +kernel
theorem dX7_weigh_49 : decode cX7_weigh 49 = .ok (.aload_n 3, 1) := by decide +kernel
theorem dX7_weigh_50 : decode cX7_weigh 50 = .ok (.invokevirtual 75, 3) := by decide +kernel
theorem dX7_weigh_53 : decode cX7_weigh 53 = .ok (.iload 4, 2) := by decide +kernel
theorem dX7_weigh_55 : decode cX7_weigh 55 = .ok (.isub, 1) := by decide +kernel
theorem dX7_weigh_56 : decode cX7_weigh 56 = .ok (.iload_n 2, 1) := by decide +kernel
theorem dX7_weigh_57 : decode cX7_weigh 57 = .ok (.iadd, 1) := by decide +kernel
theorem dX7_weigh_58 : decode cX7_weigh 58 = .ok (.bipush 24, 2) := by decide +kernel
theorem dX7_weigh_60 : decode cX7_weigh 60 = .ok (.if_icmp .le 6, 3) := by decide +kernel
theorem dX7_weigh_63 : decode cX7_weigh 63 = .ok (.bipush (-3), 2) := by decide +kernel
theorem dX7_weigh_65 : decode cX7_weigh 65 = .ok (.ireturn, 1) := by decide +kernel
theorem dX7_weigh_66 : decode cX7_weigh 66 = .ok (.aload_n 3, 1) := by decide +kernel
theorem dX7_weigh_67 : decode cX7_weigh 67 = .ok (.iload_n 1, 1) := by decide +kernel
theorem dX7_weigh_68 : decode cX7_weigh 68 = .ok (.iload_n 2, 1) := by decide +kernel
theorem dX7_weigh_69 : decode cX7_weigh 69 = .ok (.invokevirtual 79, 3) := by decide +kernel
theorem dX7_weigh_72 : decode cX7_weigh 72 = .ok (.ifCond .ne 6, 3) := by decide +kernel
theorem dX7_weigh_75 : decode cX7_weigh 75 = .ok (.bipush (-4), 2) := by decide +kernel
theorem dX7_weigh_77 : decode cX7_weigh 77 = .ok (.ireturn, 1) := by decide +kernel
theorem dX7_weigh_78 : decode cX7_weigh 78 = .ok (.aload_n 0, 1) := by decide +kernel
theorem dX7_weigh_79 : decode cX7_weigh 79 = .ok (.getfield 19, 3) := by decide +kernel
theorem dX7_weigh_82 : decode cX7_weigh 82 = .ok (.aload_n 0, 1) := by decide +kernel
theorem dX7_weigh_83 : decode cX7_weigh 83 = .ok (.getfield 10, 3) := by decide +kernel
theorem dX7_weigh_86 : decode cX7_weigh 86 = .ok (.invokevirtual 83, 3) := by decide +kernel
theorem dX7_weigh_89 : decode cX7_weigh 89 = .ok (.aload_n 3, 1) := by decide +kernel
theorem dX7_weigh_90 : decode cX7_weigh 90 = .ok (.iload_n 1, 1) := by decide +kernel
theorem dX7_weigh_91 : decode cX7_weigh 91 = .ok (.iload_n 2, 1) := by decide +kernel
theorem dX7_weigh_92 : decode cX7_weigh 92 = .ok (.invokevirtual 87, 3) := by decide +kernel
theorem dX7_weigh_95 : decode cX7_weigh 95 = .ok (.aload_n 0, 1) := by decide +kernel
theorem dX7_weigh_96 : decode cX7_weigh 96 = .ok (.getfield 10, 3) := by decide +kernel
theorem dX7_weigh_99 : decode cX7_weigh 99 = .ok (.iconst 0, 1) := by decide +kernel
theorem dX7_weigh_100 : decode cX7_weigh 100 = .ok (.putfield 91, 3) := by decide +kernel
theorem dX7_weigh_103 : decode cX7_weigh 103 = .ok (.iload 4, 2) := by decide +kernel
theorem dX7_weigh_105 : decode cX7_weigh 105 = .ok (.ireturn, 1) := by decide +kernel
set_option maxRecDepth 20000 in
theorem ggX7_ages_X5_all : GoodIn wsX7_ages wsX5_all := goodIn_r _ [10, 11, 12, 13, 9, 14, 15, 16, 17, 18, 19, 20, 84, 85] (by decide +kernel) (by decide +kernel)
set_option maxRecDepth 20000 in
theorem gX7_ages_X5_all : GoodIn wsX7_ages (wsV RX7 75 RX5 yX5_all wsX5_all) := goodIn_app (goodIn_of _ (by decide +kernel)) ggX7_ages_X5_all
set_option maxRecDepth 20000 in
theorem ggX7_ages_X5_weightOf : GoodIn wsX7_ages wsX5_weightOf := goodIn_r _ [19, 15, 20, 84, 85] (by decide +kernel) (by decide +kernel)
set_option maxRecDepth 20000 in
theorem gX7_ages_X5_weightOf : GoodIn wsX7_ages (wsV RX7 71 RX5 yX5_weightOf wsX5_weightOf) := goodIn_app (goodIn_of _ (by decide +kernel)) ggX7_ages_X5_weightOf
set_option maxRecDepth 20000 in
theorem ggX7_ages_X1_keep : GoodIn wsX7_ages wsX1_keep := goodIn_r _ [26, 27, 28, 29, 30, 31, 25, 32, 33, 34, 35, 36, 37, 38, 39, 40, 41, 42, 43, 44, 45, 46, 47, 48, 49, 50, 9, 51, 15, 20, 52, 53, 54, 55, 86, 87, 74, 75, 76, 77, 78, 79, 80, 81, 82, 83, 84, 85] (by decide +kernel) (by decide +kernel)
set_option maxRecDepth 20000 in
theorem gX7_ages_X1_keep : GoodIn wsX7_ages (wsV RX7 83 RX1 yX1_keep wsX1_keep) := goodIn_app (goodIn_of _ (by decide +kernel)) ggX7_ages_X1_keep
set_option maxRecDepth 20000 in
theorem ggX7_ages_X5_resize : GoodIn wsX7_ages wsX5_resize := goodIn_r _ [59, 15, 60, 61, 62, 9, 63, 20, 84, 85] (by decide +kernel) (by decide +kernel)
set_option maxRecDepth 20000 in
theorem gX7_ages_X5_resize : GoodIn wsX7_ages (wsV RX7 94 RX5 yX5_resize wsX5_resize) := goodIn_app (goodIn_of _ (by decide +kernel)) ggX7_ages_X5_resize
theorem dX7_ages_0 : decode cX7_ages 0 = .ok (.aload_n 0, 1) := by decide +kernel
theorem dX7_ages_1 : decode cX7_ages 1 = .ok (.getfield 10, 3) := by decide +kernel
theorem dX7_ages_4 : decode cX7_ages 4 = .ok (.getfield 64, 3) := by decide +kernel
theorem dX7_ages_7 : decode cX7_ages 7 = .ok (.astore_n 2, 1) := by decide +kernel
theorem dX7_ages_8 : decode cX7_ages 8 = .ok (.iload_n 1, 1) := by decide +kernel
theorem dX7_ages_9 : decode cX7_ages 9 = .ok (.iconst 1, 1) := by decide +kernel
theorem dX7_ages_10 : decode cX7_ages 10 = .ok (.if_icmp .lt 9, 3) := by decide +kernel
theorem dX7_ages_13 : decode cX7_ages 13 = .ok (.iload_n 1, 1) := by decide +kernel
theorem dX7_ages_14 : decode cX7_ages 14 = .ok (.bipush 8, 2) := by decide +kernel
theorem dX7_ages_16 : decode cX7_ages 16 = .ok (.if_icmp .le 5, 3) := by decide +kernel
theorem dX7_ages_19 : decode cX7_ages 19 = .ok (.iconst (-1), 1) := by decide +kernel
theorem dX7_ages_20 : decode cX7_ages 20 = .ok (.ireturn, 1) := by decide +kernel
theorem dX7_ages_21 : decode cX7_ages 21 = .ok (.aload_n 2, 1) := by decide +kernel
theorem dX7_ages_22 : decode cX7_ages 22 = .ok (.getfield 67, 3) := by decide +kernel
theorem dX7_ages_25 : decode cX7_ages 25 = .ok (.istore_n 3, 1) := by decide +kernel
theorem dX7_ages_26 : decode cX7_ages 26 = .ok (.iload_n 1, 1) := by decide +kernel
theorem dX7_ages_27 : decode cX7_ages 27 = .ok (.iload_n 3, 1) := by decide +kernel
theorem dX7_ages_28 : decode cX7_ages 28 = .ok (.if_icmp .ne 6, 3) := by decide +kernel
theorem dX7_ages_31 : decode cX7_ages 31 = .ok (.bipush (-2), 2) := by decide +kernel
theorem dX7_ages_33 : decode cX7_ages 33 = .ok (.ireturn, 1) := by decide +kernel
theorem dX7_ages_34 : decode cX7_ages 34 = .ok (.iload_n 1, 1) := by decide +kernel
theorem dX7_ages_35 : decode cX7_ages 35 = .ok (.iload_n 3, 1) := by decide +kernel
theorem dX7_ages_36 : decode cX7_ages 36 = .ok (.if_icmp .le 19, 3) := by decide +kernel
theorem dX7_ages_39 : decode cX7_ages 39 = .ok (.aload_n 2, 1) := by decide +kernel
theorem dX7_ages_40 : decode cX7_ages 40 = .ok (.invokevirtual 75, 3) := by decide +kernel
theorem dX7_ages_43 : decode cX7_ages 43 = .ok (.iload_n 1, 1) := by decide +kernel
theorem dX7_ages_44 : decode cX7_ages 44 = .ok (.iadd, 1) := by decide +kernel
theorem dX7_ages_45 : decode cX7_ages 45 = .ok (.iload_n 3, 1) := by decide +kernel
theorem dX7_ages_46 : decode cX7_ages 46 = .ok (.isub, 1) := by decide +kernel
theorem dX7_ages_47 : decode cX7_ages 47 = .ok (.bipush 24, 2) := by decide +kernel
theorem dX7_ages_49 : decode cX7_ages 49 = .ok (.if_icmp .le 6, 3) := by decide +kernel
theorem dX7_ages_52 : decode cX7_ages 52 = .ok (.bipush (-3), 2) := by decide +kernel
theorem dX7_ages_54 : decode cX7_ages 54 = .ok (.ireturn, 1) := by decide +kernel
theorem dX7_ages_55 : decode cX7_ages 55 = .ok (.iload_n 1, 1) := by decide +kernel
theorem dX7_ages_56 : decode cX7_ages 56 = .ok (.iload_n 3, 1) := by decide +kernel
theorem dX7_ages_57 : decode cX7_ages 57 = .ok (.if_icmp .ge 14, 3) := by decide +kernel
theorem dX7_ages_60 : decode cX7_ages 60 = .ok (.aload_n 2, 1) := by decide +kernel
theorem dX7_ages_61 : decode cX7_ages 61 = .ok (.iload_n 1, 1) := by decide +kernel
theorem dX7_ages_62 : decode cX7_ages 62 = .ok (.invokevirtual 71, 3) := by decide +kernel
theorem dX7_ages_65 : decode cX7_ages 65 = .ok (.ifCond .ne 6, 3) := by decide +kernel
theorem dX7_ages_68 : decode cX7_ages 68 = .ok (.bipush (-4), 2) := by decide +kernel
theorem dX7_ages_70 : decode cX7_ages 70 = .ok (.ireturn, 1) := by decide +kernel
theorem dX7_ages_71 : decode cX7_ages 71 = .ok (.aload_n 0, 1) := by decide +kernel
theorem dX7_ages_72 : decode cX7_ages 72 = .ok (.getfield 19, 3) := by decide +kernel
theorem dX7_ages_75 : decode cX7_ages 75 = .ok (.aload_n 0, 1) := by decide +kernel
theorem dX7_ages_76 : decode cX7_ages 76 = .ok (.getfield 10, 3) := by decide +kernel
theorem dX7_ages_79 : decode cX7_ages 79 = .ok (.invokevirtual 83, 3) := by decide +kernel
theorem dX7_ages_82 : decode cX7_ages 82 = .ok (.aload_n 2, 1) := by decide +kernel
theorem dX7_ages_83 : decode cX7_ages 83 = .ok (.iload_n 1, 1) := by decide +kernel
theorem dX7_ages_84 : decode cX7_ages 84 = .ok (.invokevirtual 94, 3) := by decide +kernel
theorem dX7_ages_87 : decode cX7_ages 87 = .ok (.aload_n 0, 1) := by decide +kernel
theorem dX7_ages_88 : decode cX7_ages 88 = .ok (.getfield 10, 3) := by decide +kernel
theorem dX7_ages_91 : decode cX7_ages 91 = .ok (.iconst 0, 1) := by decide +kernel
theorem dX7_ages_92 : decode cX7_ages 92 = .ok (.putfield 91, 3) := by decide +kernel
theorem dX7_ages_95 : decode cX7_ages 95 = .ok (.iload_n 3, 1) := by decide +kernel
theorem dX7_ages_96 : decode cX7_ages 96 = .ok (.ireturn, 1) := by decide +kernel
set_option maxRecDepth 20000 in
theorem ggX7_tell_X7_leastTold : GoodIn wsX7_tell wsX7_leastTold := goodIn_r _ [6] (by decide +kernel) (by decide +kernel)
set_option maxRecDepth 20000 in
theorem gX7_tell_X7_leastTold : GoodIn wsX7_tell (va_wsS RX7 98 yX7_leastTold wsX7_leastTold) := goodIn_app (goodIn_of _ (by decide +kernel)) ggX7_tell_X7_leastTold
set_option maxRecDepth 20000 in
theorem ggX7_tell_X7_mostTold : GoodIn wsX7_tell wsX7_mostTold := goodIn_r _ [9] (by decide +kernel) (by decide +kernel)
set_option maxRecDepth 20000 in
theorem gX7_tell_X7_mostTold : GoodIn wsX7_tell (va_wsS RX7 101 yX7_mostTold wsX7_mostTold) := goodIn_app (goodIn_of _ (by decide +kernel)) ggX7_tell_X7_mostTold
set_option maxRecDepth 20000 in
theorem ggX7_tell_X2_told : GoodIn wsX7_tell wsX2_told := goodIn_r _ [14, 15, 16, 17, 65, 66, 67, 68, 69, 70, 71, 72, 73, 74] (by decide +kernel) (by decide +kernel)
set_option maxRecDepth 20000 in
theorem gX7_tell_X2_told : GoodIn wsX7_tell (wsV RX7 104 RX2 yX2_told wsX2_told) := goodIn_app (goodIn_of _ (by decide +kernel)) ggX7_tell_X2_told
set_option maxRecDepth 20000 in
theorem ggX7_tell_X1_keep : GoodIn wsX7_tell wsX1_keep := goodIn_r _ [22, 23, 24, 25, 26, 27, 21, 28, 29, 30, 31, 13, 32, 33, 15, 16, 17, 34, 35, 36, 37, 38, 39, 40, 41, 42, 43, 44, 45, 46, 47, 48, 49, 50, 75, 76, 65, 66, 67, 68, 69, 70, 71, 72, 73, 74, 77, 78] (by decide +kernel) (by decide +kernel)
set_option maxRecDepth 20000 in
theorem gX7_tell_X1_keep : GoodIn wsX7_tell (wsV RX7 83 RX1 yX1_keep wsX1_keep) := goodIn_app (goodIn_of _ (by decide +kernel)) ggX7_tell_X1_keep
set_option maxRecDepth 20000 in
theorem ggX7_tell_X2_putTold : GoodIn wsX7_tell wsX2_putTold := goodIn_r _ [54, 15, 16, 17, 65, 66, 67, 68, 69, 70, 71, 72, 73, 74] (by decide +kernel) (by decide +kernel)
set_option maxRecDepth 20000 in
theorem gX7_tell_X2_putTold : GoodIn wsX7_tell (wsV RX7 107 RX2 yX2_putTold wsX2_putTold) := goodIn_app (goodIn_of _ (by decide +kernel)) ggX7_tell_X2_putTold
theorem dX7_tell_0 : decode cX7_tell 0 = .ok (.iload_n 1, 1) := by decide +kernel
theorem dX7_tell_1 : decode cX7_tell 1 = .ok (.ifCond .lt 24, 3) := by decide +kernel
theorem dX7_tell_4 : decode cX7_tell 4 = .ok (.iload_n 1, 1) := by decide +kernel
theorem dX7_tell_5 : decode cX7_tell 5 = .ok (.iconst 2, 1) := by decide +kernel
theorem dX7_tell_6 : decode cX7_tell 6 = .ok (.if_icmp .gt 19, 3) := by decide +kernel
theorem dX7_tell_9 : decode cX7_tell 9 = .ok (.iload_n 2, 1) := by decide +kernel
theorem dX7_tell_10 : decode cX7_tell 10 = .ok (.iload_n 1, 1) := by decide +kernel
theorem dX7_tell_11 : decode cX7_tell 11 = .ok (.invokestatic 98, 3) := by decide +kernel
theorem dX7_tell_14 : decode cX7_tell 14 = .ok (.if_icmp .lt 11, 3) := by decide +kernel
theorem dX7_tell_17 : decode cX7_tell 17 = .ok (.iload_n 2, 1) := by decide +kernel
theorem dX7_tell_18 : decode cX7_tell 18 = .ok (.iload_n 1, 1) := by decide +kernel
theorem dX7_tell_19 : decode cX7_tell 19 = .ok (.invokestatic 101, 3) := by decide +kernel
theorem dX7_tell_22 : decode cX7_tell 22 = .ok (.if_icmp .le 5, 3) := by decide +kernel
theorem dX7_tell_25 : decode cX7_tell 25 = .ok (.iconst (-1), 1) := by decide +kernel
theorem dX7_tell_26 : decode cX7_tell 26 = .ok (.ireturn, 1) := by decide +kernel
theorem dX7_tell_27 : decode cX7_tell 27 = .ok (.aload_n 0, 1) := by decide +kernel
theorem dX7_tell_28 : decode cX7_tell 28 = .ok (.getfield 10, 3) := by decide +kernel
theorem dX7_tell_31 : decode cX7_tell 31 = .ok (.iload_n 1, 1) := by decide +kernel
theorem dX7_tell_32 : decode cX7_tell 32 = .ok (.invokevirtual 104, 3) := by decide +kernel
theorem dX7_tell_35 : decode cX7_tell 35 = .ok (.istore_n 3, 1) := by decide +kernel
theorem dX7_tell_36 : decode cX7_tell 36 = .ok (.iload_n 2, 1) := by decide +kernel
theorem dX7_tell_37 : decode cX7_tell 37 = .ok (.iload_n 3, 1) := by decide +kernel
theorem dX7_tell_38 : decode cX7_tell 38 = .ok (.if_icmp .ne 6, 3) := by decide +kernel
theorem dX7_tell_41 : decode cX7_tell 41 = .ok (.bipush (-2), 2) := by decide +kernel
theorem dX7_tell_43 : decode cX7_tell 43 = .ok (.ireturn, 1) := by decide +kernel
theorem dX7_tell_44 : decode cX7_tell 44 = .ok (.aload_n 0, 1) := by decide +kernel
theorem dX7_tell_45 : decode cX7_tell 45 = .ok (.getfield 19, 3) := by decide +kernel
theorem dX7_tell_48 : decode cX7_tell 48 = .ok (.aload_n 0, 1) := by decide +kernel
theorem dX7_tell_49 : decode cX7_tell 49 = .ok (.getfield 10, 3) := by decide +kernel
theorem dX7_tell_52 : decode cX7_tell 52 = .ok (.invokevirtual 83, 3) := by decide +kernel
theorem dX7_tell_55 : decode cX7_tell 55 = .ok (.aload_n 0, 1) := by decide +kernel
theorem dX7_tell_56 : decode cX7_tell 56 = .ok (.getfield 10, 3) := by decide +kernel
theorem dX7_tell_59 : decode cX7_tell 59 = .ok (.iload_n 1, 1) := by decide +kernel
theorem dX7_tell_60 : decode cX7_tell 60 = .ok (.iload_n 2, 1) := by decide +kernel
theorem dX7_tell_61 : decode cX7_tell 61 = .ok (.invokevirtual 107, 3) := by decide +kernel
theorem dX7_tell_64 : decode cX7_tell 64 = .ok (.iload_n 3, 1) := by decide +kernel
theorem dX7_tell_65 : decode cX7_tell 65 = .ok (.ireturn, 1) := by decide +kernel
set_option maxRecDepth 20000 in
theorem ggX7_age_X5_weightOf : GoodIn wsX7_age wsX5_weightOf := goodIn_r _ [8, 9, 10, 43, 44] (by decide +kernel) (by decide +kernel)
set_option maxRecDepth 20000 in
theorem gX7_age_X5_weightOf : GoodIn wsX7_age (wsV RX7 71 RX5 yX5_weightOf wsX5_weightOf) := goodIn_app (goodIn_of _ (by decide +kernel)) ggX7_age_X5_weightOf
set_option maxRecDepth 20000 in
theorem ggX7_age_X5_left : GoodIn wsX7_age wsX5_left := goodIn_r _ [14, 9, 15, 5, 6, 7, 8, 10, 43, 44] (by decide +kernel) (by decide +kernel)
set_option maxRecDepth 20000 in
theorem gX7_age_X5_left : GoodIn wsX7_age (wsV RX7 110 RX5 yX5_left wsX5_left) := goodIn_app (goodIn_of _ (by decide +kernel)) ggX7_age_X5_left
set_option maxRecDepth 20000 in
theorem ggX7_age_X7_lowest : GoodIn wsX7_age wsX7_lowest := goodIn_r _ [19, 20, 21, 18, 22] (by decide +kernel) (by decide +kernel)
set_option maxRecDepth 20000 in
theorem gX7_age_X7_lowest : GoodIn wsX7_age (va_wsS RX7 113 yX7_lowest wsX7_lowest) := goodIn_app (goodIn_of _ (by decide +kernel)) ggX7_age_X7_lowest
theorem dX7_age_0 : decode cX7_age 0 = .ok (.aload_n 0, 1) := by decide +kernel
theorem dX7_age_1 : decode cX7_age 1 = .ok (.getfield 10, 3) := by decide +kernel
theorem dX7_age_4 : decode cX7_age 4 = .ok (.getfield 64, 3) := by decide +kernel
theorem dX7_age_7 : decode cX7_age 7 = .ok (.astore_n 3, 1) := by decide +kernel
theorem dX7_age_8 : decode cX7_age 8 = .ok (.iload_n 1, 1) := by decide +kernel
theorem dX7_age_9 : decode cX7_age 9 = .ok (.iconst 1, 1) := by decide +kernel
theorem dX7_age_10 : decode cX7_age 10 = .ok (.if_icmp .lt 20, 3) := by decide +kernel
theorem dX7_age_13 : decode cX7_age 13 = .ok (.iload_n 1, 1) := by decide +kernel
theorem dX7_age_14 : decode cX7_age 14 = .ok (.aload_n 3, 1) := by decide +kernel
theorem dX7_age_15 : decode cX7_age 15 = .ok (.getfield 67, 3) := by decide +kernel
theorem dX7_age_18 : decode cX7_age 18 = .ok (.if_icmp .gt 12, 3) := by decide +kernel
theorem dX7_age_21 : decode cX7_age 21 = .ok (.iload_n 2, 1) := by decide +kernel
theorem dX7_age_22 : decode cX7_age 22 = .ok (.ifCond .lt 8, 3) := by decide +kernel
theorem dX7_age_25 : decode cX7_age 25 = .ok (.iload_n 2, 1) := by decide +kernel
theorem dX7_age_26 : decode cX7_age 26 = .ok (.iconst 3, 1) := by decide +kernel
theorem dX7_age_27 : decode cX7_age 27 = .ok (.if_icmp .le 5, 3) := by decide +kernel
theorem dX7_age_30 : decode cX7_age 30 = .ok (.iconst (-1), 1) := by decide +kernel
theorem dX7_age_31 : decode cX7_age 31 = .ok (.ireturn, 1) := by decide +kernel
theorem dX7_age_32 : decode cX7_age 32 = .ok (.iload_n 2, 1) := by decide +kernel
theorem dX7_age_33 : decode cX7_age 33 = .ok (.iconst 2, 1) := by decide +kernel
theorem dX7_age_34 : decode cX7_age 34 = .ok (.if_icmp .ne 9, 3) := by decide +kernel
theorem dX7_age_37 : decode cX7_age 37 = .ok (.aload_n 3, 1) := by decide +kernel
theorem dX7_age_38 : decode cX7_age 38 = .ok (.iload_n 1, 1) := by decide +kernel
theorem dX7_age_39 : decode cX7_age 39 = .ok (.invokevirtual 71, 3) := by decide +kernel
theorem dX7_age_42 : decode cX7_age 42 = .ok (.ireturn, 1) := by decide +kernel
theorem dX7_age_43 : decode cX7_age 43 = .ok (.iload_n 2, 1) := by decide +kernel
theorem dX7_age_44 : decode cX7_age 44 = .ok (.iconst 3, 1) := by decide +kernel
theorem dX7_age_45 : decode cX7_age 45 = .ok (.if_icmp .ne 9, 3) := by decide +kernel
theorem dX7_age_48 : decode cX7_age 48 = .ok (.aload_n 3, 1) := by decide +kernel
theorem dX7_age_49 : decode cX7_age 49 = .ok (.iload_n 1, 1) := by decide +kernel
theorem dX7_age_50 : decode cX7_age 50 = .ok (.invokevirtual 110, 3) := by decide +kernel
theorem dX7_age_53 : decode cX7_age 53 = .ok (.ireturn, 1) := by decide +kernel
theorem dX7_age_54 : decode cX7_age 54 = .ok (.aload_n 3, 1) := by decide +kernel
theorem dX7_age_55 : decode cX7_age 55 = .ok (.iload_n 1, 1) := by decide +kernel
theorem dX7_age_56 : decode cX7_age 56 = .ok (.invokevirtual 71, 3) := by decide +kernel
theorem dX7_age_59 : decode cX7_age 59 = .ok (.i2l, 1) := by decide +kernel
theorem dX7_age_60 : decode cX7_age 60 = .ok (.aload_n 3, 1) := by decide +kernel
theorem dX7_age_61 : decode cX7_age 61 = .ok (.iload_n 1, 1) := by decide +kernel
theorem dX7_age_62 : decode cX7_age 62 = .ok (.iconst 1, 1) := by decide +kernel
theorem dX7_age_63 : decode cX7_age 63 = .ok (.isub, 1) := by decide +kernel
theorem dX7_age_64 : decode cX7_age 64 = .ok (.invokevirtual 110, 3) := by decide +kernel
theorem dX7_age_67 : decode cX7_age 67 = .ok (.i2l, 1) := by decide +kernel
theorem dX7_age_68 : decode cX7_age 68 = .ok (.iload_n 2, 1) := by decide +kernel
theorem dX7_age_69 : decode cX7_age 69 = .ok (.invokestatic 113, 3) := by decide +kernel
theorem dX7_age_72 : decode cX7_age 72 = .ok (.l2i, 1) := by decide +kernel
theorem dX7_age_73 : decode cX7_age 73 = .ok (.ireturn, 1) := by decide +kernel
set_option maxRecDepth 20000 in
theorem ggX7_count_X5_all : GoodIn wsX7_count wsX5_all := goodIn_r _ [19, 20, 21, 22, 18, 23, 24, 25, 26, 27, 28, 29, 95, 96] (by decide +kernel) (by decide +kernel)
set_option maxRecDepth 20000 in
theorem gX7_count_X5_all : GoodIn wsX7_count (wsV RX7 75 RX5 yX5_all wsX5_all) := goodIn_app (goodIn_of _ (by decide +kernel)) ggX7_count_X5_all
set_option maxRecDepth 20000 in
theorem ggX7_count_X5_trend : GoodIn wsX7_count wsX5_trend := goodIn_r _ [33, 24, 25, 26, 27, 18, 28, 29, 20, 21, 22, 23, 95, 96] (by decide +kernel) (by decide +kernel)
set_option maxRecDepth 20000 in
theorem gX7_count_X5_trend : GoodIn wsX7_count (wsV RX7 138 RX5 yX5_trend wsX5_trend) := goodIn_app (goodIn_of _ (by decide +kernel)) ggX7_count_X5_trend
set_option maxRecDepth 20000 in
theorem ggX7_count_X5_bestAge : GoodIn wsX7_count wsX5_bestAge := goodIn_r _ [37, 24, 38, 39, 40, 18, 41, 42, 16, 17, 19, 20, 21, 22, 23, 25, 26, 27, 28, 29, 43, 44, 45, 46, 95, 96] (by decide +kernel) (by decide +kernel)
set_option maxRecDepth 20000 in
theorem gX7_count_X5_bestAge : GoodIn wsX7_count (wsV RX7 141 RX5 yX5_bestAge wsX5_bestAge) := goodIn_app (goodIn_of _ (by decide +kernel)) ggX7_count_X5_bestAge
set_option maxRecDepth 20000 in
theorem ggX7_count_X3_bestBlock : GoodIn wsX7_count wsX3_bestBlock := goodIn_r _ [51, 52, 53, 54, 55, 50, 56, 57, 58, 59, 60, 16, 17, 18, 19, 20, 21, 22, 23, 24, 25, 26, 27, 28, 29, 61, 62, 63, 64, 65, 66, 67, 68, 69, 70, 71, 72, 73, 74, 85, 86, 87, 88, 89, 90, 91, 92, 93, 94, 99, 100, 95, 96] (by decide +kernel) (by decide +kernel)
set_option maxRecDepth 20000 in
theorem gX7_count_X3_bestBlock : GoodIn wsX7_count (wsV RX7 145 RX3 yX3_bestBlock wsX3_bestBlock) := goodIn_app (goodIn_of _ (by decide +kernel)) ggX7_count_X3_bestBlock
theorem dX7_count_0 : decode cX7_count 0 = .ok (.iload_n 1, 1) := by decide +kernel
theorem dX7_count_1 : decode cX7_count 1 = .ok (.tableswitch 213 0 13 #[71, 82, 93, 101, 109, 117, 125, 133, 141, 149, 157, 168, 193, 205], 71) := by decide +kernel
theorem dX7_count_72 : decode cX7_count 72 = .ok (.aload_n 0, 1) := by decide +kernel
theorem dX7_count_73 : decode cX7_count 73 = .ok (.getfield 10, 3) := by decide +kernel
theorem dX7_count_76 : decode cX7_count 76 = .ok (.getfield 64, 3) := by decide +kernel
theorem dX7_count_79 : decode cX7_count 79 = .ok (.getfield 67, 3) := by decide +kernel
theorem dX7_count_82 : decode cX7_count 82 = .ok (.ireturn, 1) := by decide +kernel
theorem dX7_count_83 : decode cX7_count 83 = .ok (.aload_n 0, 1) := by decide +kernel
theorem dX7_count_84 : decode cX7_count 84 = .ok (.getfield 10, 3) := by decide +kernel
theorem dX7_count_87 : decode cX7_count 87 = .ok (.getfield 64, 3) := by decide +kernel
theorem dX7_count_90 : decode cX7_count 90 = .ok (.invokevirtual 75, 3) := by decide +kernel
theorem dX7_count_93 : decode cX7_count 93 = .ok (.ireturn, 1) := by decide +kernel
theorem dX7_count_94 : decode cX7_count 94 = .ok (.aload_n 0, 1) := by decide +kernel
theorem dX7_count_95 : decode cX7_count 95 = .ok (.getfield 10, 3) := by decide +kernel
theorem dX7_count_98 : decode cX7_count 98 = .ok (.getfield 117, 3) := by decide +kernel
theorem dX7_count_101 : decode cX7_count 101 = .ok (.ireturn, 1) := by decide +kernel
theorem dX7_count_102 : decode cX7_count 102 = .ok (.aload_n 0, 1) := by decide +kernel
theorem dX7_count_103 : decode cX7_count 103 = .ok (.getfield 10, 3) := by decide +kernel
theorem dX7_count_106 : decode cX7_count 106 = .ok (.getfield 120, 3) := by decide +kernel
theorem dX7_count_109 : decode cX7_count 109 = .ok (.ireturn, 1) := by decide +kernel
theorem dX7_count_110 : decode cX7_count 110 = .ok (.aload_n 0, 1) := by decide +kernel
theorem dX7_count_111 : decode cX7_count 111 = .ok (.getfield 10, 3) := by decide +kernel
theorem dX7_count_114 : decode cX7_count 114 = .ok (.getfield 123, 3) := by decide +kernel
theorem dX7_count_117 : decode cX7_count 117 = .ok (.ireturn, 1) := by decide +kernel
theorem dX7_count_118 : decode cX7_count 118 = .ok (.aload_n 0, 1) := by decide +kernel
theorem dX7_count_119 : decode cX7_count 119 = .ok (.getfield 10, 3) := by decide +kernel
theorem dX7_count_122 : decode cX7_count 122 = .ok (.getfield 91, 3) := by decide +kernel
theorem dX7_count_125 : decode cX7_count 125 = .ok (.ireturn, 1) := by decide +kernel
theorem dX7_count_126 : decode cX7_count 126 = .ok (.aload_n 0, 1) := by decide +kernel
theorem dX7_count_127 : decode cX7_count 127 = .ok (.getfield 10, 3) := by decide +kernel
theorem dX7_count_130 : decode cX7_count 130 = .ok (.getfield 126, 3) := by decide +kernel
theorem dX7_count_133 : decode cX7_count 133 = .ok (.ireturn, 1) := by decide +kernel
theorem dX7_count_134 : decode cX7_count 134 = .ok (.aload_n 0, 1) := by decide +kernel
theorem dX7_count_135 : decode cX7_count 135 = .ok (.getfield 10, 3) := by decide +kernel
theorem dX7_count_138 : decode cX7_count 138 = .ok (.getfield 129, 3) := by decide +kernel
theorem dX7_count_141 : decode cX7_count 141 = .ok (.ireturn, 1) := by decide +kernel
theorem dX7_count_142 : decode cX7_count 142 = .ok (.aload_n 0, 1) := by decide +kernel
theorem dX7_count_143 : decode cX7_count 143 = .ok (.getfield 10, 3) := by decide +kernel
theorem dX7_count_146 : decode cX7_count 146 = .ok (.getfield 132, 3) := by decide +kernel
theorem dX7_count_149 : decode cX7_count 149 = .ok (.ireturn, 1) := by decide +kernel
theorem dX7_count_150 : decode cX7_count 150 = .ok (.aload_n 0, 1) := by decide +kernel
theorem dX7_count_151 : decode cX7_count 151 = .ok (.getfield 10, 3) := by decide +kernel
theorem dX7_count_154 : decode cX7_count 154 = .ok (.getfield 135, 3) := by decide +kernel
theorem dX7_count_157 : decode cX7_count 157 = .ok (.ireturn, 1) := by decide +kernel
theorem dX7_count_158 : decode cX7_count 158 = .ok (.aload_n 0, 1) := by decide +kernel
theorem dX7_count_159 : decode cX7_count 159 = .ok (.getfield 10, 3) := by decide +kernel
theorem dX7_count_162 : decode cX7_count 162 = .ok (.getfield 64, 3) := by decide +kernel
theorem dX7_count_165 : decode cX7_count 165 = .ok (.invokevirtual 138, 3) := by decide +kernel
theorem dX7_count_168 : decode cX7_count 168 = .ok (.ireturn, 1) := by decide +kernel
theorem dX7_count_169 : decode cX7_count 169 = .ok (.aload_n 0, 1) := by decide +kernel
theorem dX7_count_170 : decode cX7_count 170 = .ok (.getfield 10, 3) := by decide +kernel
theorem dX7_count_173 : decode cX7_count 173 = .ok (.getfield 64, 3) := by decide +kernel
theorem dX7_count_176 : decode cX7_count 176 = .ok (.aload_n 0, 1) := by decide +kernel
theorem dX7_count_177 : decode cX7_count 177 = .ok (.getfield 10, 3) := by decide +kernel
theorem dX7_count_180 : decode cX7_count 180 = .ok (.getfield 117, 3) := by decide +kernel
theorem dX7_count_183 : decode cX7_count 183 = .ok (.aload_n 0, 1) := by decide +kernel
theorem dX7_count_184 : decode cX7_count 184 = .ok (.getfield 10, 3) := by decide +kernel
theorem dX7_count_187 : decode cX7_count 187 = .ok (.getfield 120, 3) := by decide +kernel
theorem dX7_count_190 : decode cX7_count 190 = .ok (.invokevirtual 141, 3) := by decide +kernel
theorem dX7_count_193 : decode cX7_count 193 = .ok (.ireturn, 1) := by decide +kernel
theorem dX7_count_194 : decode cX7_count 194 = .ok (.aload_n 0, 1) := by decide +kernel
theorem dX7_count_195 : decode cX7_count 195 = .ok (.getfield 52, 3) := by decide +kernel
theorem dX7_count_198 : decode cX7_count 198 = .ok (.aload_n 0, 1) := by decide +kernel
theorem dX7_count_199 : decode cX7_count 199 = .ok (.getfield 10, 3) := by decide +kernel
theorem dX7_count_202 : decode cX7_count 202 = .ok (.invokevirtual 145, 3) := by decide +kernel
theorem dX7_count_205 : decode cX7_count 205 = .ok (.ireturn, 1) := by decide +kernel
theorem dX7_count_206 : decode cX7_count 206 = .ok (.aload_n 0, 1) := by decide +kernel
theorem dX7_count_207 : decode cX7_count 207 = .ok (.getfield 19, 3) := by decide +kernel
theorem dX7_count_210 : decode cX7_count 210 = .ok (.getfield 149, 3) := by decide +kernel
theorem dX7_count_213 : decode cX7_count 213 = .ok (.ireturn, 1) := by decide +kernel
theorem dX7_count_214 : decode cX7_count 214 = .ok (.iconst (-1), 1) := by decide +kernel
theorem dX7_count_215 : decode cX7_count 215 = .ok (.ireturn, 1) := by decide +kernel
set_option maxRecDepth 20000 in
theorem ggX7_mean_X7_isNoSide : GoodIn wsX7_mean wsX7_isNoSide := goodIn_r _ [7] (by decide +kernel) (by decide +kernel)
set_option maxRecDepth 20000 in
theorem gX7_mean_X7_isNoSide : GoodIn wsX7_mean (va_wsS RX7 152 yX7_isNoSide wsX7_isNoSide) := goodIn_app (goodIn_of _ (by decide +kernel)) ggX7_mean_X7_isNoSide
set_option maxRecDepth 20000 in
theorem ggX7_mean_X5_served : GoodIn wsX7_mean wsX5_served := goodIn_r _ [12, 13, 14, 15, 11, 16, 17, 18, 19, 20, 21, 22, 53, 54] (by decide +kernel) (by decide +kernel)
set_option maxRecDepth 20000 in
theorem gX7_mean_X5_served : GoodIn wsX7_mean (wsV RX7 156 RX5 yX5_served wsX5_served) := goodIn_app (goodIn_of _ (by decide +kernel)) ggX7_mean_X5_served
set_option maxRecDepth 20000 in
theorem ggX7_mean_X5_all : GoodIn wsX7_mean wsX5_all := goodIn_r _ [26, 13, 14, 15, 11, 16, 17, 18, 19, 20, 21, 22, 53, 54] (by decide +kernel) (by decide +kernel)
set_option maxRecDepth 20000 in
theorem gX7_mean_X5_all : GoodIn wsX7_mean (wsV RX7 75 RX5 yX5_all wsX5_all) := goodIn_app (goodIn_of _ (by decide +kernel)) ggX7_mean_X5_all
set_option maxRecDepth 20000 in
theorem ggX7_mean_X7_lowest : GoodIn wsX7_mean wsX7_lowest := goodIn_r _ [29, 30, 31, 6, 32] (by decide +kernel) (by decide +kernel)
set_option maxRecDepth 20000 in
theorem gX7_mean_X7_lowest : GoodIn wsX7_mean (va_wsS RX7 113 yX7_lowest wsX7_lowest) := goodIn_app (goodIn_of _ (by decide +kernel)) ggX7_mean_X7_lowest
theorem dX7_mean_0 : decode cX7_mean 0 = .ok (.iload_n 1, 1) := by decide +kernel
theorem dX7_mean_1 : decode cX7_mean 1 = .ok (.invokestatic 152, 3) := by decide +kernel
theorem dX7_mean_4 : decode cX7_mean 4 = .ok (.ifCond .eq 5, 3) := by decide +kernel
theorem dX7_mean_7 : decode cX7_mean 7 = .ok (.iconst (-1), 1) := by decide +kernel
theorem dX7_mean_8 : decode cX7_mean 8 = .ok (.ireturn, 1) := by decide +kernel
theorem dX7_mean_9 : decode cX7_mean 9 = .ok (.aload_n 0, 1) := by decide +kernel
theorem dX7_mean_10 : decode cX7_mean 10 = .ok (.getfield 10, 3) := by decide +kernel
theorem dX7_mean_13 : decode cX7_mean 13 = .ok (.getfield 64, 3) := by decide +kernel
theorem dX7_mean_16 : decode cX7_mean 16 = .ok (.astore_n 2, 1) := by decide +kernel
theorem dX7_mean_17 : decode cX7_mean 17 = .ok (.aload_n 2, 1) := by decide +kernel
theorem dX7_mean_18 : decode cX7_mean 18 = .ok (.aload_n 2, 1) := by decide +kernel
theorem dX7_mean_19 : decode cX7_mean 19 = .ok (.getfield 67, 3) := by decide +kernel
theorem dX7_mean_22 : decode cX7_mean 22 = .ok (.invokevirtual 156, 3) := by decide +kernel
theorem dX7_mean_25 : decode cX7_mean 25 = .ok (.i2l, 1) := by decide +kernel
theorem dX7_mean_26 : decode cX7_mean 26 = .ok (.aload_n 2, 1) := by decide +kernel
theorem dX7_mean_27 : decode cX7_mean 27 = .ok (.invokevirtual 75, 3) := by decide +kernel
theorem dX7_mean_30 : decode cX7_mean 30 = .ok (.i2l, 1) := by decide +kernel
theorem dX7_mean_31 : decode cX7_mean 31 = .ok (.iload_n 1, 1) := by decide +kernel
theorem dX7_mean_32 : decode cX7_mean 32 = .ok (.invokestatic 113, 3) := by decide +kernel
theorem dX7_mean_35 : decode cX7_mean 35 = .ok (.l2i, 1) := by decide +kernel
theorem dX7_mean_36 : decode cX7_mean 36 = .ok (.ireturn, 1) := by decide +kernel
set_option maxRecDepth 20000 in
theorem ggX7_rate_X7_isNoSide : GoodIn wsX7_rate wsX7_isNoSide := goodIn_r _ [9] (by decide +kernel) (by decide +kernel)
set_option maxRecDepth 20000 in
theorem gX7_rate_X7_isNoSide : GoodIn wsX7_rate (va_wsS RX7 152 yX7_isNoSide wsX7_isNoSide) := goodIn_app (goodIn_of _ (by decide +kernel)) ggX7_rate_X7_isNoSide
set_option maxRecDepth 20000 in
theorem ggX7_rate_X5_cost : GoodIn wsX7_rate wsX5_cost := goodIn_r _ [14, 15, 16, 17, 13, 18, 19, 20, 21, 22, 23, 24, 25, 26, 27, 28, 59, 60] (by decide +kernel) (by decide +kernel)
set_option maxRecDepth 20000 in
theorem gX7_rate_X5_cost : GoodIn wsX7_rate (wsV RX7 159 RX5 yX5_cost wsX5_cost) := goodIn_app (goodIn_of _ (by decide +kernel)) ggX7_rate_X5_cost
set_option maxRecDepth 20000 in
theorem ggX7_rate_X5_served : GoodIn wsX7_rate wsX5_served := goodIn_r _ [32, 19, 20, 21, 13, 22, 23, 24, 25, 26, 27, 28, 59, 60] (by decide +kernel) (by decide +kernel)
set_option maxRecDepth 20000 in
theorem gX7_rate_X5_served : GoodIn wsX7_rate (wsV RX7 156 RX5 yX5_served wsX5_served) := goodIn_app (goodIn_of _ (by decide +kernel)) ggX7_rate_X5_served
set_option maxRecDepth 20000 in
theorem ggX7_rate_X7_lowest : GoodIn wsX7_rate wsX7_lowest := goodIn_r _ [35, 36, 37, 8, 38] (by decide +kernel) (by decide +kernel)
set_option maxRecDepth 20000 in
theorem gX7_rate_X7_lowest : GoodIn wsX7_rate (va_wsS RX7 113 yX7_lowest wsX7_lowest) := goodIn_app (goodIn_of _ (by decide +kernel)) ggX7_rate_X7_lowest
theorem dX7_rate_0 : decode cX7_rate 0 = .ok (.aload_n 0, 1) := by decide +kernel
theorem dX7_rate_1 : decode cX7_rate 1 = .ok (.getfield 10, 3) := by decide +kernel
theorem dX7_rate_4 : decode cX7_rate 4 = .ok (.getfield 64, 3) := by decide +kernel
theorem dX7_rate_7 : decode cX7_rate 7 = .ok (.astore_n 3, 1) := by decide +kernel
theorem dX7_rate_8 : decode cX7_rate 8 = .ok (.iload_n 1, 1) := by decide +kernel
theorem dX7_rate_9 : decode cX7_rate 9 = .ok (.iconst 1, 1) := by decide +kernel
theorem dX7_rate_10 : decode cX7_rate 10 = .ok (.if_icmp .lt 18, 3) := by decide +kernel
theorem dX7_rate_13 : decode cX7_rate 13 = .ok (.iload_n 1, 1) := by decide +kernel
theorem dX7_rate_14 : decode cX7_rate 14 = .ok (.aload_n 3, 1) := by decide +kernel
theorem dX7_rate_15 : decode cX7_rate 15 = .ok (.getfield 67, 3) := by decide +kernel
theorem dX7_rate_18 : decode cX7_rate 18 = .ok (.if_icmp .gt 10, 3) := by decide +kernel
theorem dX7_rate_21 : decode cX7_rate 21 = .ok (.iload_n 2, 1) := by decide +kernel
theorem dX7_rate_22 : decode cX7_rate 22 = .ok (.invokestatic 152, 3) := by decide +kernel
theorem dX7_rate_25 : decode cX7_rate 25 = .ok (.ifCond .eq 5, 3) := by decide +kernel
theorem dX7_rate_28 : decode cX7_rate 28 = .ok (.iconst (-1), 1) := by decide +kernel
theorem dX7_rate_29 : decode cX7_rate 29 = .ok (.ireturn, 1) := by decide +kernel
theorem dX7_rate_30 : decode cX7_rate 30 = .ok (.aload_n 3, 1) := by decide +kernel
theorem dX7_rate_31 : decode cX7_rate 31 = .ok (.iload_n 1, 1) := by decide +kernel
theorem dX7_rate_32 : decode cX7_rate 32 = .ok (.aload_n 0, 1) := by decide +kernel
theorem dX7_rate_33 : decode cX7_rate 33 = .ok (.getfield 10, 3) := by decide +kernel
theorem dX7_rate_36 : decode cX7_rate 36 = .ok (.getfield 117, 3) := by decide +kernel
theorem dX7_rate_39 : decode cX7_rate 39 = .ok (.aload_n 0, 1) := by decide +kernel
theorem dX7_rate_40 : decode cX7_rate 40 = .ok (.getfield 10, 3) := by decide +kernel
theorem dX7_rate_43 : decode cX7_rate 43 = .ok (.getfield 120, 3) := by decide +kernel
theorem dX7_rate_46 : decode cX7_rate 46 = .ok (.invokevirtual 159, 3) := by decide +kernel
theorem dX7_rate_49 : decode cX7_rate 49 = .ok (.i2l, 1) := by decide +kernel
theorem dX7_rate_50 : decode cX7_rate 50 = .ok (.aload_n 3, 1) := by decide +kernel
theorem dX7_rate_51 : decode cX7_rate 51 = .ok (.iload_n 1, 1) := by decide +kernel
theorem dX7_rate_52 : decode cX7_rate 52 = .ok (.invokevirtual 156, 3) := by decide +kernel
theorem dX7_rate_55 : decode cX7_rate 55 = .ok (.i2l, 1) := by decide +kernel
theorem dX7_rate_56 : decode cX7_rate 56 = .ok (.iload_n 2, 1) := by decide +kernel
theorem dX7_rate_57 : decode cX7_rate 57 = .ok (.invokestatic 113, 3) := by decide +kernel
theorem dX7_rate_60 : decode cX7_rate 60 = .ok (.l2i, 1) := by decide +kernel
theorem dX7_rate_61 : decode cX7_rate 61 = .ok (.ireturn, 1) := by decide +kernel
set_option maxRecDepth 20000 in
theorem ggX7_fails_X7_isNoSide : GoodIn wsX7_fails wsX7_isNoSide := goodIn_r _ [9] (by decide +kernel) (by decide +kernel)
set_option maxRecDepth 20000 in
theorem gX7_fails_X7_isNoSide : GoodIn wsX7_fails (va_wsS RX7 152 yX7_isNoSide wsX7_isNoSide) := goodIn_app (goodIn_of _ (by decide +kernel)) ggX7_fails_X7_isNoSide
set_option maxRecDepth 20000 in
theorem ggX7_fails_X3_reckon : GoodIn wsX7_fails wsX3_reckon := goodIn_r _ [14, 15, 16, 17, 18, 19, 20, 21, 22, 23, 24, 25, 26, 27, 28, 29, 30, 31, 32, 33, 8, 34, 35, 66, 67, 68, 69] (by decide +kernel) (by decide +kernel)
set_option maxRecDepth 20000 in
theorem gX7_fails_X3_reckon : GoodIn wsX7_fails (wsV RX7 165 RX3 yX3_reckon wsX3_reckon) := goodIn_app (goodIn_of _ (by decide +kernel)) ggX7_fails_X3_reckon
set_option maxRecDepth 20000 in
theorem ggX7_fails_X3_expectedUpTo : GoodIn wsX7_fails wsX3_expectedUpTo := goodIn_r _ [39, 16, 66, 67] (by decide +kernel) (by decide +kernel)
set_option maxRecDepth 20000 in
theorem gX7_fails_X3_expectedUpTo : GoodIn wsX7_fails (wsV RX7 169 RX3 yX3_expectedUpTo wsX3_expectedUpTo) := goodIn_app (goodIn_of _ (by decide +kernel)) ggX7_fails_X3_expectedUpTo
set_option maxRecDepth 20000 in
theorem ggX7_fails_X7_lowest : GoodIn wsX7_fails wsX7_lowest := goodIn_r _ [42, 43, 44, 8, 45] (by decide +kernel) (by decide +kernel)
set_option maxRecDepth 20000 in
theorem gX7_fails_X7_lowest : GoodIn wsX7_fails (va_wsS RX7 113 yX7_lowest wsX7_lowest) := goodIn_app (goodIn_of _ (by decide +kernel)) ggX7_fails_X7_lowest
theorem dX7_fails_0 : decode cX7_fails 0 = .ok (.iload_n 1, 1) := by decide +kernel
theorem dX7_fails_1 : decode cX7_fails 1 = .ok (.ifCond .lt 16, 3) := by decide +kernel
theorem dX7_fails_4 : decode cX7_fails 4 = .ok (.iload_n 1, 1) := by decide +kernel
theorem dX7_fails_5 : decode cX7_fails 5 = .ok (.bipush 10, 2) := by decide +kernel
theorem dX7_fails_7 : decode cX7_fails 7 = .ok (.if_icmp .gt 10, 3) := by decide +kernel
theorem dX7_fails_10 : decode cX7_fails 10 = .ok (.iload_n 2, 1) := by decide +kernel
theorem dX7_fails_11 : decode cX7_fails 11 = .ok (.invokestatic 152, 3) := by decide +kernel
theorem dX7_fails_14 : decode cX7_fails 14 = .ok (.ifCond .eq 7, 3) := by decide +kernel
theorem dX7_fails_17 : decode cX7_fails 17 = .ok (.ldc2_w 163, 3) := by decide +kernel
theorem dX7_fails_20 : decode cX7_fails 20 = .ok (.lreturn, 1) := by decide +kernel
theorem dX7_fails_21 : decode cX7_fails 21 = .ok (.aload_n 0, 1) := by decide +kernel
theorem dX7_fails_22 : decode cX7_fails 22 = .ok (.getfield 52, 3) := by decide +kernel
theorem dX7_fails_25 : decode cX7_fails 25 = .ok (.aload_n 0, 1) := by decide +kernel
theorem dX7_fails_26 : decode cX7_fails 26 = .ok (.getfield 10, 3) := by decide +kernel
theorem dX7_fails_29 : decode cX7_fails 29 = .ok (.getfield 64, 3) := by decide +kernel
theorem dX7_fails_32 : decode cX7_fails 32 = .ok (.invokevirtual 165, 3) := by decide +kernel
theorem dX7_fails_35 : decode cX7_fails 35 = .ok (.aload_n 0, 1) := by decide +kernel
theorem dX7_fails_36 : decode cX7_fails 36 = .ok (.getfield 52, 3) := by decide +kernel
theorem dX7_fails_39 : decode cX7_fails 39 = .ok (.iload_n 1, 1) := by decide +kernel
theorem dX7_fails_40 : decode cX7_fails 40 = .ok (.invokevirtual 169, 3) := by decide +kernel
theorem dX7_fails_43 : decode cX7_fails 43 = .ok (.aload_n 0, 1) := by decide +kernel
theorem dX7_fails_44 : decode cX7_fails 44 = .ok (.getfield 52, 3) := by decide +kernel
theorem dX7_fails_47 : decode cX7_fails 47 = .ok (.getfield 173, 3) := by decide +kernel
theorem dX7_fails_50 : decode cX7_fails 50 = .ok (.iload_n 2, 1) := by decide +kernel
theorem dX7_fails_51 : decode cX7_fails 51 = .ok (.invokestatic 113, 3) := by decide +kernel
theorem dX7_fails_54 : decode cX7_fails 54 = .ok (.lreturn, 1) := by decide +kernel
set_option maxRecDepth 20000 in
theorem ggX7_block_X7_isNoSide : GoodIn wsX7_block wsX7_isNoSide := goodIn_r _ [9] (by decide +kernel) (by decide +kernel)
set_option maxRecDepth 20000 in
theorem gX7_block_X7_isNoSide : GoodIn wsX7_block (va_wsS RX7 152 yX7_isNoSide wsX7_isNoSide) := goodIn_app (goodIn_of _ (by decide +kernel)) ggX7_block_X7_isNoSide
set_option maxRecDepth 20000 in
theorem ggX7_block_X3_reckon : GoodIn wsX7_block wsX3_reckon := goodIn_r _ [14, 15, 16, 17, 18, 19, 20, 21, 22, 23, 24, 25, 26, 27, 28, 29, 30, 31, 32, 33, 8, 34, 35, 72, 73, 74, 75] (by decide +kernel) (by decide +kernel)
set_option maxRecDepth 20000 in
theorem gX7_block_X3_reckon : GoodIn wsX7_block (wsV RX7 165 RX3 yX3_reckon wsX3_reckon) := goodIn_app (goodIn_of _ (by decide +kernel)) ggX7_block_X3_reckon
set_option maxRecDepth 20000 in
theorem ggX7_block_X3_blockCost : GoodIn wsX7_block wsX3_blockCost := goodIn_r _ [39, 40, 41, 15, 42, 43, 44, 13, 45, 16, 62, 63, 64, 65, 66, 67, 68, 69, 70, 71, 72, 73] (by decide +kernel) (by decide +kernel)
set_option maxRecDepth 20000 in
theorem gX7_block_X3_blockCost : GoodIn wsX7_block (wsV RX7 177 RX3 yX3_blockCost wsX3_blockCost) := goodIn_app (goodIn_of _ (by decide +kernel)) ggX7_block_X3_blockCost
set_option maxRecDepth 20000 in
theorem ggX7_block_X7_lowest : GoodIn wsX7_block wsX7_lowest := goodIn_r _ [48, 49, 50, 8, 51] (by decide +kernel) (by decide +kernel)
set_option maxRecDepth 20000 in
theorem gX7_block_X7_lowest : GoodIn wsX7_block (va_wsS RX7 113 yX7_lowest wsX7_lowest) := goodIn_app (goodIn_of _ (by decide +kernel)) ggX7_block_X7_lowest
theorem dX7_block_0 : decode cX7_block 0 = .ok (.iload_n 1, 1) := by decide +kernel
theorem dX7_block_1 : decode cX7_block 1 = .ok (.iconst 1, 1) := by decide +kernel
theorem dX7_block_2 : decode cX7_block 2 = .ok (.if_icmp .lt 16, 3) := by decide +kernel
theorem dX7_block_5 : decode cX7_block 5 = .ok (.iload_n 1, 1) := by decide +kernel
theorem dX7_block_6 : decode cX7_block 6 = .ok (.bipush 10, 2) := by decide +kernel
theorem dX7_block_8 : decode cX7_block 8 = .ok (.if_icmp .gt 10, 3) := by decide +kernel
theorem dX7_block_11 : decode cX7_block 11 = .ok (.iload_n 2, 1) := by decide +kernel
theorem dX7_block_12 : decode cX7_block 12 = .ok (.invokestatic 152, 3) := by decide +kernel
theorem dX7_block_15 : decode cX7_block 15 = .ok (.ifCond .eq 7, 3) := by decide +kernel
theorem dX7_block_18 : decode cX7_block 18 = .ok (.ldc2_w 163, 3) := by decide +kernel
theorem dX7_block_21 : decode cX7_block 21 = .ok (.lreturn, 1) := by decide +kernel
theorem dX7_block_22 : decode cX7_block 22 = .ok (.aload_n 0, 1) := by decide +kernel
theorem dX7_block_23 : decode cX7_block 23 = .ok (.getfield 52, 3) := by decide +kernel
theorem dX7_block_26 : decode cX7_block 26 = .ok (.aload_n 0, 1) := by decide +kernel
theorem dX7_block_27 : decode cX7_block 27 = .ok (.getfield 10, 3) := by decide +kernel
theorem dX7_block_30 : decode cX7_block 30 = .ok (.getfield 64, 3) := by decide +kernel
theorem dX7_block_33 : decode cX7_block 33 = .ok (.invokevirtual 165, 3) := by decide +kernel
theorem dX7_block_36 : decode cX7_block 36 = .ok (.aload_n 0, 1) := by decide +kernel
theorem dX7_block_37 : decode cX7_block 37 = .ok (.getfield 52, 3) := by decide +kernel
theorem dX7_block_40 : decode cX7_block 40 = .ok (.iload_n 1, 1) := by decide +kernel
theorem dX7_block_41 : decode cX7_block 41 = .ok (.aload_n 0, 1) := by decide +kernel
theorem dX7_block_42 : decode cX7_block 42 = .ok (.getfield 10, 3) := by decide +kernel
theorem dX7_block_45 : decode cX7_block 45 = .ok (.invokevirtual 177, 3) := by decide +kernel
theorem dX7_block_48 : decode cX7_block 48 = .ok (.iload_n 1, 1) := by decide +kernel
theorem dX7_block_49 : decode cX7_block 49 = .ok (.i2l, 1) := by decide +kernel
theorem dX7_block_50 : decode cX7_block 50 = .ok (.aload_n 0, 1) := by decide +kernel
theorem dX7_block_51 : decode cX7_block 51 = .ok (.getfield 52, 3) := by decide +kernel
theorem dX7_block_54 : decode cX7_block 54 = .ok (.getfield 173, 3) := by decide +kernel
theorem dX7_block_57 : decode cX7_block 57 = .ok (.lmul, 1) := by decide +kernel
theorem dX7_block_58 : decode cX7_block 58 = .ok (.iload_n 2, 1) := by decide +kernel
theorem dX7_block_59 : decode cX7_block 59 = .ok (.invokestatic 113, 3) := by decide +kernel
theorem dX7_block_62 : decode cX7_block 62 = .ok (.lreturn, 1) := by decide +kernel
set_option maxRecDepth 20000 in
theorem ggX7_least_X0_reckon : GoodIn wsX7_least wsX0_reckon := goodIn_r _ [11, 12, 13, 14, 15, 16, 17, 18, 19, 20, 21, 22, 10, 23, 24, 25, 26, 27, 28, 29, 30, 31, 32, 33, 34, 35, 36, 37, 38, 39, 40, 41, 42, 43, 44, 45, 46, 47, 48, 87, 88, 89, 90, 75, 76, 77, 78, 79, 80, 81, 82, 83, 84, 85, 86] (by decide +kernel) (by decide +kernel)
set_option maxRecDepth 20000 in
theorem gX7_least_X0_reckon : GoodIn wsX7_least (wsV RX7 181 RX0 yX0_reckon wsX0_reckon) := goodIn_app (goodIn_of _ (by decide +kernel)) ggX7_least_X0_reckon
set_option maxRecDepth 20000 in
theorem ggX7_least_X0_isBetter : GoodIn wsX7_least wsX0_isBetter := goodIn_r _ [52, 14, 13, 48, 38, 39, 35, 40, 41, 42, 43, 44, 45, 46, 87, 88, 89, 90, 85, 86] (by decide +kernel) (by decide +kernel)
set_option maxRecDepth 20000 in
theorem gX7_least_X0_isBetter : GoodIn wsX7_least (wsV RX7 184 RX0 yX0_isBetter wsX0_isBetter) := goodIn_app (goodIn_of _ (by decide +kernel)) ggX7_least_X0_isBetter
set_option maxRecDepth 20000 in
theorem ggX7_least_X0_costFrom : GoodIn wsX7_least wsX0_costFrom := goodIn_r _ [56, 15, 87, 88, 89, 90] (by decide +kernel) (by decide +kernel)
set_option maxRecDepth 20000 in
theorem gX7_least_X0_costFrom : GoodIn wsX7_least (wsV RX7 188 RX0 yX0_costFrom wsX0_costFrom) := goodIn_app (goodIn_of _ (by decide +kernel)) ggX7_least_X0_costFrom
set_option maxRecDepth 20000 in
theorem ggX7_least_X5_left : GoodIn wsX7_least wsX5_left := goodIn_r _ [40, 41, 42, 43, 44, 35, 45, 46, 85, 86] (by decide +kernel) (by decide +kernel)
set_option maxRecDepth 20000 in
theorem gX7_least_X5_left : GoodIn wsX7_least (wsV RX7 110 RX5 yX5_left wsX5_left) := goodIn_app (goodIn_of _ (by decide +kernel)) ggX7_least_X5_left
set_option maxRecDepth 20000 in
theorem ggX7_least_X7_lowest : GoodIn wsX7_least wsX7_lowest := goodIn_r _ [61, 62, 63, 60, 64] (by decide +kernel) (by decide +kernel)
set_option maxRecDepth 20000 in
theorem gX7_least_X7_lowest : GoodIn wsX7_least (va_wsS RX7 113 yX7_lowest wsX7_lowest) := goodIn_app (goodIn_of _ (by decide +kernel)) ggX7_least_X7_lowest
theorem dX7_least_0 : decode cX7_least 0 = .ok (.iload_n 1, 1) := by decide +kernel
theorem dX7_least_1 : decode cX7_least 1 = .ok (.ifCond .lt 35, 3) := by decide +kernel
theorem dX7_least_4 : decode cX7_least 4 = .ok (.iload_n 1, 1) := by decide +kernel
theorem dX7_least_5 : decode cX7_least 5 = .ok (.iconst 5, 1) := by decide +kernel
theorem dX7_least_6 : decode cX7_least 6 = .ok (.if_icmp .gt 30, 3) := by decide +kernel
theorem dX7_least_9 : decode cX7_least 9 = .ok (.iload_n 2, 1) := by decide +kernel
theorem dX7_least_10 : decode cX7_least 10 = .ok (.ifCond .lt 26, 3) := by decide +kernel
theorem dX7_least_13 : decode cX7_least 13 = .ok (.iload_n 2, 1) := by decide +kernel
theorem dX7_least_14 : decode cX7_least 14 = .ok (.aload_n 0, 1) := by decide +kernel
theorem dX7_least_15 : decode cX7_least 15 = .ok (.getfield 10, 3) := by decide +kernel
theorem dX7_least_18 : decode cX7_least 18 = .ok (.getfield 64, 3) := by decide +kernel
theorem dX7_least_21 : decode cX7_least 21 = .ok (.getfield 67, 3) := by decide +kernel
theorem dX7_least_24 : decode cX7_least 24 = .ok (.if_icmp .ge 12, 3) := by decide +kernel
theorem dX7_least_27 : decode cX7_least 27 = .ok (.iload_n 3, 1) := by decide +kernel
theorem dX7_least_28 : decode cX7_least 28 = .ok (.ifCond .lt 8, 3) := by decide +kernel
theorem dX7_least_31 : decode cX7_least 31 = .ok (.iload_n 3, 1) := by decide +kernel
theorem dX7_least_32 : decode cX7_least 32 = .ok (.iconst 2, 1) := by decide +kernel
theorem dX7_least_33 : decode cX7_least 33 = .ok (.if_icmp .le 7, 3) := by decide +kernel
theorem dX7_least_36 : decode cX7_least 36 = .ok (.ldc2_w 163, 3) := by decide +kernel
theorem dX7_least_39 : decode cX7_least 39 = .ok (.lreturn, 1) := by decide +kernel
theorem dX7_least_40 : decode cX7_least 40 = .ok (.aload_n 0, 1) := by decide +kernel
theorem dX7_least_41 : decode cX7_least 41 = .ok (.getfield 59, 3) := by decide +kernel
theorem dX7_least_44 : decode cX7_least 44 = .ok (.aload_n 0, 1) := by decide +kernel
theorem dX7_least_45 : decode cX7_least 45 = .ok (.getfield 10, 3) := by decide +kernel
theorem dX7_least_48 : decode cX7_least 48 = .ok (.iload_n 1, 1) := by decide +kernel
theorem dX7_least_49 : decode cX7_least 49 = .ok (.invokevirtual 181, 3) := by decide +kernel
theorem dX7_least_52 : decode cX7_least 52 = .ok (.iload_n 3, 1) := by decide +kernel
theorem dX7_least_53 : decode cX7_least 53 = .ok (.iconst 2, 1) := by decide +kernel
theorem dX7_least_54 : decode cX7_least 54 = .ok (.if_icmp .ne 27, 3) := by decide +kernel
theorem dX7_least_57 : decode cX7_least 57 = .ok (.aload_n 0, 1) := by decide +kernel
theorem dX7_least_58 : decode cX7_least 58 = .ok (.getfield 59, 3) := by decide +kernel
theorem dX7_least_61 : decode cX7_least 61 = .ok (.iload_n 2, 1) := by decide +kernel
theorem dX7_least_62 : decode cX7_least 62 = .ok (.aload_n 0, 1) := by decide +kernel
theorem dX7_least_63 : decode cX7_least 63 = .ok (.getfield 10, 3) := by decide +kernel
theorem dX7_least_66 : decode cX7_least 66 = .ok (.getfield 64, 3) := by decide +kernel
theorem dX7_least_69 : decode cX7_least 69 = .ok (.invokevirtual 184, 3) := by decide +kernel
theorem dX7_least_72 : decode cX7_least 72 = .ok (.ifCond .eq 7, 3) := by decide +kernel
theorem dX7_least_75 : decode cX7_least 75 = .ok (.lconst 1, 1) := by decide +kernel
theorem dX7_least_76 : decode cX7_least 76 = .ok (.goto 4, 3) := by decide +kernel
theorem dX7_least_79 : decode cX7_least 79 = .ok (.lconst 0, 1) := by decide +kernel
theorem dX7_least_80 : decode cX7_least 80 = .ok (.lreturn, 1) := by decide +kernel
theorem dX7_least_81 : decode cX7_least 81 = .ok (.aload_n 0, 1) := by decide +kernel
theorem dX7_least_82 : decode cX7_least 82 = .ok (.getfield 59, 3) := by decide +kernel
theorem dX7_least_85 : decode cX7_least 85 = .ok (.iload_n 2, 1) := by decide +kernel
theorem dX7_least_86 : decode cX7_least 86 = .ok (.invokevirtual 188, 3) := by decide +kernel
theorem dX7_least_89 : decode cX7_least 89 = .ok (.aload_n 0, 1) := by decide +kernel
theorem dX7_least_90 : decode cX7_least 90 = .ok (.getfield 59, 3) := by decide +kernel
theorem dX7_least_93 : decode cX7_least 93 = .ok (.getfield 191, 3) := by decide +kernel
theorem dX7_least_96 : decode cX7_least 96 = .ok (.aload_n 0, 1) := by decide +kernel
theorem dX7_least_97 : decode cX7_least 97 = .ok (.getfield 10, 3) := by decide +kernel
theorem dX7_least_100 : decode cX7_least 100 = .ok (.getfield 64, 3) := by decide +kernel
theorem dX7_least_103 : decode cX7_least 103 = .ok (.iload_n 2, 1) := by decide +kernel
theorem dX7_least_104 : decode cX7_least 104 = .ok (.invokevirtual 110, 3) := by decide +kernel
theorem dX7_least_107 : decode cX7_least 107 = .ok (.i2l, 1) := by decide +kernel
theorem dX7_least_108 : decode cX7_least 108 = .ok (.lmul, 1) := by decide +kernel
theorem dX7_least_109 : decode cX7_least 109 = .ok (.iload_n 3, 1) := by decide +kernel
theorem dX7_least_110 : decode cX7_least 110 = .ok (.invokestatic 113, 3) := by decide +kernel
theorem dX7_least_113 : decode cX7_least 113 = .ok (.lreturn, 1) := by decide +kernel
set_option maxRecDepth 20000 in
theorem ggX7_pair_X7_isNoSide : GoodIn wsX7_pair wsX7_isNoSide := goodIn_r _ [8] (by decide +kernel) (by decide +kernel)
set_option maxRecDepth 20000 in
theorem gX7_pair_X7_isNoSide : GoodIn wsX7_pair (va_wsS RX7 152 yX7_isNoSide wsX7_isNoSide) := goodIn_app (goodIn_of _ (by decide +kernel)) ggX7_pair_X7_isNoSide
set_option maxRecDepth 20000 in
theorem ggX7_pair_X5_all : GoodIn wsX7_pair wsX5_all := goodIn_r _ [13, 14, 15, 16, 12, 17, 18, 19, 20, 21, 22, 23, 63, 64] (by decide +kernel) (by decide +kernel)
set_option maxRecDepth 20000 in
theorem gX7_pair_X5_all : GoodIn wsX7_pair (wsV RX7 75 RX5 yX5_all wsX5_all) := goodIn_app (goodIn_of _ (by decide +kernel)) ggX7_pair_X5_all
set_option maxRecDepth 20000 in
theorem ggX7_pair_X7_pairCost : GoodIn wsX7_pair wsX7_pairCost := goodIn_r _ [26, 2, 3, 27, 9, 10, 11, 12, 13, 14, 15, 16, 17, 18, 19, 20, 21, 22, 23, 28, 24, 25, 7, 29, 30, 31, 32, 33, 34, 35, 36, 53, 54, 55, 56, 57, 58, 59, 60, 61, 62, 63, 64] (by decide +kernel) (by decide +kernel)
set_option maxRecDepth 20000 in
theorem gX7_pair_X7_pairCost : GoodIn wsX7_pair (va_wsS RX7 192 yX7_pairCost wsX7_pairCost) := goodIn_app (goodIn_of _ (by decide +kernel)) ggX7_pair_X7_pairCost
set_option maxRecDepth 20000 in
theorem ggX7_pair_X7_power : GoodIn wsX7_pair wsX7_power := goodIn_r _ [31] (by decide +kernel) (by decide +kernel)
set_option maxRecDepth 20000 in
theorem gX7_pair_X7_power : GoodIn wsX7_pair (va_wsS RX7 196 yX7_power wsX7_power) := goodIn_app (goodIn_of _ (by decide +kernel)) ggX7_pair_X7_power
set_option maxRecDepth 20000 in
theorem ggX7_pair_X7_lowest : GoodIn wsX7_pair wsX7_lowest := goodIn_r _ [39, 40, 41, 7, 42] (by decide +kernel) (by decide +kernel)
set_option maxRecDepth 20000 in
theorem gX7_pair_X7_lowest : GoodIn wsX7_pair (va_wsS RX7 113 yX7_lowest wsX7_lowest) := goodIn_app (goodIn_of _ (by decide +kernel)) ggX7_pair_X7_lowest
theorem dX7_pair_0 : decode cX7_pair 0 = .ok (.aload_n 0, 1) := by decide +kernel
theorem dX7_pair_1 : decode cX7_pair 1 = .ok (.getfield 10, 3) := by decide +kernel
theorem dX7_pair_4 : decode cX7_pair 4 = .ok (.getfield 64, 3) := by decide +kernel
theorem dX7_pair_7 : decode cX7_pair 7 = .ok (.astore 4, 2) := by decide +kernel
theorem dX7_pair_9 : decode cX7_pair 9 = .ok (.iload_n 1, 1) := by decide +kernel
theorem dX7_pair_10 : decode cX7_pair 10 = .ok (.iconst 1, 1) := by decide +kernel
theorem dX7_pair_11 : decode cX7_pair 11 = .ok (.if_icmp .lt 28, 3) := by decide +kernel
theorem dX7_pair_14 : decode cX7_pair 14 = .ok (.iload_n 1, 1) := by decide +kernel
theorem dX7_pair_15 : decode cX7_pair 15 = .ok (.aload 4, 2) := by decide +kernel
theorem dX7_pair_17 : decode cX7_pair 17 = .ok (.getfield 67, 3) := by decide +kernel
theorem dX7_pair_20 : decode cX7_pair 20 = .ok (.if_icmp .gt 19, 3) := by decide +kernel
theorem dX7_pair_23 : decode cX7_pair 23 = .ok (.iload_n 2, 1) := by decide +kernel
theorem dX7_pair_24 : decode cX7_pair 24 = .ok (.ifCond .lt 15, 3) := by decide +kernel
theorem dX7_pair_27 : decode cX7_pair 27 = .ok (.iload_n 2, 1) := by decide +kernel
theorem dX7_pair_28 : decode cX7_pair 28 = .ok (.iconst 3, 1) := by decide +kernel
theorem dX7_pair_29 : decode cX7_pair 29 = .ok (.if_icmp .gt 10, 3) := by decide +kernel
theorem dX7_pair_32 : decode cX7_pair 32 = .ok (.iload_n 3, 1) := by decide +kernel
theorem dX7_pair_33 : decode cX7_pair 33 = .ok (.invokestatic 152, 3) := by decide +kernel
theorem dX7_pair_36 : decode cX7_pair 36 = .ok (.ifCond .eq 7, 3) := by decide +kernel
theorem dX7_pair_39 : decode cX7_pair 39 = .ok (.ldc2_w 163, 3) := by decide +kernel
theorem dX7_pair_42 : decode cX7_pair 42 = .ok (.lreturn, 1) := by decide +kernel
theorem dX7_pair_43 : decode cX7_pair 43 = .ok (.aload 4, 2) := by decide +kernel
theorem dX7_pair_45 : decode cX7_pair 45 = .ok (.invokevirtual 75, 3) := by decide +kernel
theorem dX7_pair_48 : decode cX7_pair 48 = .ok (.i2l, 1) := by decide +kernel
theorem dX7_pair_49 : decode cX7_pair 49 = .ok (.lstore 5, 2) := by decide +kernel
theorem dX7_pair_51 : decode cX7_pair 51 = .ok (.aload_n 0, 1) := by decide +kernel
theorem dX7_pair_52 : decode cX7_pair 52 = .ok (.getfield 10, 3) := by decide +kernel
theorem dX7_pair_55 : decode cX7_pair 55 = .ok (.iload_n 1, 1) := by decide +kernel
theorem dX7_pair_56 : decode cX7_pair 56 = .ok (.iload_n 2, 1) := by decide +kernel
theorem dX7_pair_57 : decode cX7_pair 57 = .ok (.iconst 0, 1) := by decide +kernel
theorem dX7_pair_58 : decode cX7_pair 58 = .ok (.iconst 0, 1) := by decide +kernel
theorem dX7_pair_59 : decode cX7_pair 59 = .ok (.invokestatic 192, 3) := by decide +kernel
theorem dX7_pair_62 : decode cX7_pair 62 = .ok (.lload 5, 2) := by decide +kernel
theorem dX7_pair_64 : decode cX7_pair 64 = .ok (.iconst 2, 1) := by decide +kernel
theorem dX7_pair_65 : decode cX7_pair 65 = .ok (.iload_n 2, 1) := by decide +kernel
theorem dX7_pair_66 : decode cX7_pair 66 = .ok (.imul, 1) := by decide +kernel
theorem dX7_pair_67 : decode cX7_pair 67 = .ok (.iconst 2, 1) := by decide +kernel
theorem dX7_pair_68 : decode cX7_pair 68 = .ok (.iadd, 1) := by decide +kernel
theorem dX7_pair_69 : decode cX7_pair 69 = .ok (.invokestatic 196, 3) := by decide +kernel
theorem dX7_pair_72 : decode cX7_pair 72 = .ok (.iload_n 3, 1) := by decide +kernel
theorem dX7_pair_73 : decode cX7_pair 73 = .ok (.invokestatic 113, 3) := by decide +kernel
theorem dX7_pair_76 : decode cX7_pair 76 = .ok (.lreturn, 1) := by decide +kernel
set_option maxRecDepth 20000 in
theorem ggX7_run_X1_keep : GoodIn wsX7_run wsX1_keep := goodIn_r _ [8, 9, 10, 11, 12, 13, 7, 14, 15, 16, 17, 18, 19, 20, 21, 22, 23, 24, 25, 26, 27, 28, 29, 30, 31, 32, 33, 34, 35, 36, 37, 38, 39, 40, 81, 82, 71, 72, 73, 74, 75, 76, 77, 78, 79, 80, 83, 84] (by decide +kernel) (by decide +kernel)
set_option maxRecDepth 20000 in
theorem gX7_run_X1_keep : GoodIn wsX7_run (wsV RX7 83 RX1 yX1_keep wsX1_keep) := goodIn_app (goodIn_of _ (by decide +kernel)) ggX7_run_X1_keep
set_option maxRecDepth 20000 in
theorem ggX7_run_X2_runPeriod : GoodIn wsX7_run wsX2_runPeriod := goodIn_r _ [44, 20, 24, 27, 25, 28, 21, 23, 26, 22, 45, 46, 47, 18, 48, 29, 49, 50, 51, 52, 53, 54, 33, 55, 35, 56, 57, 58, 59, 36, 60, 71, 72, 73, 74, 75, 76, 77, 78, 79, 80, 83, 84] (by decide +kernel) (by decide +kernel)
set_option maxRecDepth 20000 in
theorem gX7_run_X2_runPeriod : GoodIn wsX7_run (wsV RX7 200 RX2 yX2_runPeriod wsX2_runPeriod) := goodIn_app (goodIn_of _ (by decide +kernel)) ggX7_run_X2_runPeriod
theorem dX7_run_0 : decode cX7_run 0 = .ok (.iload_n 1, 1) := by decide +kernel
theorem dX7_run_1 : decode cX7_run 1 = .ok (.iconst 1, 1) := by decide +kernel
theorem dX7_run_2 : decode cX7_run 2 = .ok (.if_icmp .lt 9, 3) := by decide +kernel
theorem dX7_run_5 : decode cX7_run 5 = .ok (.iload_n 1, 1) := by decide +kernel
theorem dX7_run_6 : decode cX7_run 6 = .ok (.bipush 100, 2) := by decide +kernel
theorem dX7_run_8 : decode cX7_run 8 = .ok (.if_icmp .le 5, 3) := by decide +kernel
theorem dX7_run_11 : decode cX7_run 11 = .ok (.iconst (-1), 1) := by decide +kernel
theorem dX7_run_12 : decode cX7_run 12 = .ok (.ireturn, 1) := by decide +kernel
theorem dX7_run_13 : decode cX7_run 13 = .ok (.aload_n 0, 1) := by decide +kernel
theorem dX7_run_14 : decode cX7_run 14 = .ok (.getfield 19, 3) := by decide +kernel
theorem dX7_run_17 : decode cX7_run 17 = .ok (.aload_n 0, 1) := by decide +kernel
theorem dX7_run_18 : decode cX7_run 18 = .ok (.getfield 10, 3) := by decide +kernel
theorem dX7_run_21 : decode cX7_run 21 = .ok (.invokevirtual 83, 3) := by decide +kernel
theorem dX7_run_24 : decode cX7_run 24 = .ok (.aload_n 0, 1) := by decide +kernel
theorem dX7_run_25 : decode cX7_run 25 = .ok (.getfield 10, 3) := by decide +kernel
theorem dX7_run_28 : decode cX7_run 28 = .ok (.getfield 126, 3) := by decide +kernel
theorem dX7_run_31 : decode cX7_run 31 = .ok (.istore_n 2, 1) := by decide +kernel
theorem dX7_run_32 : decode cX7_run 32 = .ok (.iconst 0, 1) := by decide +kernel
theorem dX7_run_33 : decode cX7_run 33 = .ok (.istore_n 3, 1) := by decide +kernel
theorem dX7_run_34 : decode cX7_run 34 = .ok (.iload_n 3, 1) := by decide +kernel
theorem dX7_run_35 : decode cX7_run 35 = .ok (.iload_n 1, 1) := by decide +kernel
theorem dX7_run_36 : decode cX7_run 36 = .ok (.if_icmp .ge 16, 3) := by decide +kernel
theorem dX7_run_39 : decode cX7_run 39 = .ok (.aload_n 0, 1) := by decide +kernel
theorem dX7_run_40 : decode cX7_run 40 = .ok (.getfield 10, 3) := by decide +kernel
theorem dX7_run_43 : decode cX7_run 43 = .ok (.invokevirtual 200, 3) := by decide +kernel
theorem dX7_run_46 : decode cX7_run 46 = .ok (.iinc 3 1, 3) := by decide +kernel
theorem dX7_run_49 : decode cX7_run 49 = .ok (.goto (-15), 3) := by decide +kernel
theorem dX7_run_52 : decode cX7_run 52 = .ok (.aload_n 0, 1) := by decide +kernel
theorem dX7_run_53 : decode cX7_run 53 = .ok (.getfield 10, 3) := by decide +kernel
theorem dX7_run_56 : decode cX7_run 56 = .ok (.getfield 126, 3) := by decide +kernel
theorem dX7_run_59 : decode cX7_run 59 = .ok (.iload_n 2, 1) := by decide +kernel
theorem dX7_run_60 : decode cX7_run 60 = .ok (.isub, 1) := by decide +kernel
theorem dX7_run_61 : decode cX7_run 61 = .ok (.ireturn, 1) := by decide +kernel
set_option maxRecDepth 20000 in
theorem ggX7_type_X6_add : GoodIn wsX7_type wsX6_add := goodIn_r _ [7, 8, 9, 20, 21, 22, 23, 24, 25, 26, 27, 28] (by decide +kernel) (by decide +kernel)
set_option maxRecDepth 20000 in
theorem gX7_type_X6_add : GoodIn wsX7_type (wsV RX7 203 RX6 yX6_add wsX6_add) := goodIn_app (goodIn_of _ (by decide +kernel)) ggX7_type_X6_add
theorem dX7_type_0 : decode cX7_type 0 = .ok (.iload_n 1, 1) := by decide +kernel
theorem dX7_type_1 : decode cX7_type 1 = .ok (.bipush 32, 2) := by decide +kernel
theorem dX7_type_3 : decode cX7_type 3 = .ok (.if_icmp .lt 9, 3) := by decide +kernel
theorem dX7_type_6 : decode cX7_type 6 = .ok (.iload_n 1, 1) := by decide +kernel
theorem dX7_type_7 : decode cX7_type 7 = .ok (.bipush 126, 2) := by decide +kernel
theorem dX7_type_9 : decode cX7_type 9 = .ok (.if_icmp .le 5, 3) := by decide +kernel
theorem dX7_type_12 : decode cX7_type 12 = .ok (.iconst (-1), 1) := by decide +kernel
theorem dX7_type_13 : decode cX7_type 13 = .ok (.ireturn, 1) := by decide +kernel
theorem dX7_type_14 : decode cX7_type 14 = .ok (.aload_n 0, 1) := by decide +kernel
theorem dX7_type_15 : decode cX7_type 15 = .ok (.getfield 32, 3) := by decide +kernel
theorem dX7_type_18 : decode cX7_type 18 = .ok (.iload_n 1, 1) := by decide +kernel
theorem dX7_type_19 : decode cX7_type 19 = .ok (.i2c, 1) := by decide +kernel
theorem dX7_type_20 : decode cX7_type 20 = .ok (.invokevirtual 203, 3) := by decide +kernel
theorem dX7_type_23 : decode cX7_type 23 = .ok (.ifCond .eq 13, 3) := by decide +kernel
theorem dX7_type_26 : decode cX7_type 26 = .ok (.aload_n 0, 1) := by decide +kernel
theorem dX7_type_27 : decode cX7_type 27 = .ok (.getfield 32, 3) := by decide +kernel
theorem dX7_type_30 : decode cX7_type 30 = .ok (.getfield 207, 3) := by decide +kernel
theorem dX7_type_33 : decode cX7_type 33 = .ok (.goto 5, 3) := by decide +kernel
theorem dX7_type_36 : decode cX7_type 36 = .ok (.bipush (-3), 2) := by decide +kernel
theorem dX7_type_38 : decode cX7_type 38 = .ok (.ireturn, 1) := by decide +kernel
set_option maxRecDepth 20000 in
theorem ggX7_read_X6_scan : GoodIn wsX7_read wsX6_scan := goodIn_r _ [19, 20, 21, 22, 23, 24, 25, 26, 27, 28, 18, 29, 30, 31, 32, 33, 34, 35, 36, 37, 38, 39, 40, 41, 42, 43, 44, 45, 46, 47, 48, 49, 50, 51, 52, 53, 54, 55, 56, 57, 58, 59, 60, 61, 62, 63, 64, 65, 66, 67, 68, 69, 70, 71, 72, 73, 74, 75, 76, 77, 78, 79, 80, 81, 82, 83, 84, 85, 86, 87, 88, 89, 135, 136, 137, 138, 139, 140, 141, 142, 143, 154, 155] (by decide +kernel) (by decide +kernel)
set_option maxRecDepth 20000 in
theorem gX7_read_X6_scan : GoodIn wsX7_read (wsV RX7 210 RX6 yX6_scan wsX6_scan) := goodIn_app (goodIn_of _ (by decide +kernel)) ggX7_read_X6_scan
set_option maxRecDepth 20000 in
theorem ggX7_read_X1_keep : GoodIn wsX7_read wsX1_keep := goodIn_r _ [94, 95, 96, 97, 98, 99, 93, 100, 101, 102, 103, 104, 105, 106, 107, 108, 109, 110, 111, 112, 113, 114, 115, 116, 117, 118, 33, 119, 35, 36, 120, 121, 122, 123, 156, 157, 144, 145, 146, 147, 148, 149, 150, 151, 152, 153, 154, 155] (by decide +kernel) (by decide +kernel)
set_option maxRecDepth 20000 in
theorem gX7_read_X1_keep : GoodIn wsX7_read (wsV RX7 83 RX1 yX1_keep wsX1_keep) := goodIn_app (goodIn_of _ (by decide +kernel)) ggX7_read_X1_keep
set_option maxRecDepth 20000 in
theorem ggX7_read_X5_takeFrom : GoodIn wsX7_read wsX5_takeFrom := goodIn_r _ [119, 35, 36, 120, 121, 122, 123, 154, 155] (by decide +kernel) (by decide +kernel)
set_option maxRecDepth 20000 in
theorem gX7_read_X5_takeFrom : GoodIn wsX7_read (wsV RX7 218 RX5 yX5_takeFrom wsX5_takeFrom) := goodIn_app (goodIn_of _ (by decide +kernel)) ggX7_read_X5_takeFrom
theorem dX7_read_0 : decode cX7_read 0 = .ok (.aload_n 0, 1) := by decide +kernel
theorem dX7_read_1 : decode cX7_read 1 = .ok (.getfield 32, 3) := by decide +kernel
theorem dX7_read_4 : decode cX7_read 4 = .ok (.invokevirtual 210, 3) := by decide +kernel
theorem dX7_read_7 : decode cX7_read 7 = .ok (.istore_n 1, 1) := by decide +kernel
theorem dX7_read_8 : decode cX7_read 8 = .ok (.aload_n 0, 1) := by decide +kernel
theorem dX7_read_9 : decode cX7_read 9 = .ok (.getfield 32, 3) := by decide +kernel
theorem dX7_read_12 : decode cX7_read 12 = .ok (.iconst 0, 1) := by decide +kernel
theorem dX7_read_13 : decode cX7_read 13 = .ok (.putfield 207, 3) := by decide +kernel
theorem dX7_read_16 : decode cX7_read 16 = .ok (.iload_n 1, 1) := by decide +kernel
theorem dX7_read_17 : decode cX7_read 17 = .ok (.ifCond .ne 14, 3) := by decide +kernel
theorem dX7_read_20 : decode cX7_read 20 = .ok (.bipush (-20), 2) := by decide +kernel
theorem dX7_read_22 : decode cX7_read 22 = .ok (.aload_n 0, 1) := by decide +kernel
theorem dX7_read_23 : decode cX7_read 23 = .ok (.getfield 32, 3) := by decide +kernel
theorem dX7_read_26 : decode cX7_read 26 = .ok (.getfield 214, 3) := by decide +kernel
theorem dX7_read_29 : decode cX7_read 29 = .ok (.isub, 1) := by decide +kernel
theorem dX7_read_30 : decode cX7_read 30 = .ok (.ireturn, 1) := by decide +kernel
theorem dX7_read_31 : decode cX7_read 31 = .ok (.aload_n 0, 1) := by decide +kernel
theorem dX7_read_32 : decode cX7_read 32 = .ok (.getfield 19, 3) := by decide +kernel
theorem dX7_read_35 : decode cX7_read 35 = .ok (.aload_n 0, 1) := by decide +kernel
theorem dX7_read_36 : decode cX7_read 36 = .ok (.getfield 10, 3) := by decide +kernel
theorem dX7_read_39 : decode cX7_read 39 = .ok (.invokevirtual 83, 3) := by decide +kernel
theorem dX7_read_42 : decode cX7_read 42 = .ok (.aload_n 0, 1) := by decide +kernel
theorem dX7_read_43 : decode cX7_read 43 = .ok (.getfield 10, 3) := by decide +kernel
theorem dX7_read_46 : decode cX7_read 46 = .ok (.getfield 64, 3) := by decide +kernel
theorem dX7_read_49 : decode cX7_read 49 = .ok (.aload_n 0, 1) := by decide +kernel
theorem dX7_read_50 : decode cX7_read 50 = .ok (.getfield 32, 3) := by decide +kernel
theorem dX7_read_53 : decode cX7_read 53 = .ok (.getfield 217, 3) := by decide +kernel
theorem dX7_read_56 : decode cX7_read 56 = .ok (.invokevirtual 218, 3) := by decide +kernel
theorem dX7_read_59 : decode cX7_read 59 = .ok (.aload_n 0, 1) := by decide +kernel
theorem dX7_read_60 : decode cX7_read 60 = .ok (.getfield 32, 3) := by decide +kernel
theorem dX7_read_63 : decode cX7_read 63 = .ok (.getfield 221, 3) := by decide +kernel
theorem dX7_read_66 : decode cX7_read 66 = .ok (.ifCond .eq 31, 3) := by decide +kernel
theorem dX7_read_69 : decode cX7_read 69 = .ok (.aload_n 0, 1) := by decide +kernel
theorem dX7_read_70 : decode cX7_read 70 = .ok (.getfield 10, 3) := by decide +kernel
theorem dX7_read_73 : decode cX7_read 73 = .ok (.aload_n 0, 1) := by decide +kernel
theorem dX7_read_74 : decode cX7_read 74 = .ok (.getfield 32, 3) := by decide +kernel
theorem dX7_read_77 : decode cX7_read 77 = .ok (.getfield 225, 3) := by decide +kernel
theorem dX7_read_80 : decode cX7_read 80 = .ok (.putfield 117, 3) := by decide +kernel
theorem dX7_read_83 : decode cX7_read 83 = .ok (.aload_n 0, 1) := by decide +kernel
theorem dX7_read_84 : decode cX7_read 84 = .ok (.getfield 10, 3) := by decide +kernel
theorem dX7_read_87 : decode cX7_read 87 = .ok (.aload_n 0, 1) := by decide +kernel
theorem dX7_read_88 : decode cX7_read 88 = .ok (.getfield 32, 3) := by decide +kernel
theorem dX7_read_91 : decode cX7_read 91 = .ok (.getfield 226, 3) := by decide +kernel
theorem dX7_read_94 : decode cX7_read 94 = .ok (.putfield 120, 3) := by decide +kernel
theorem dX7_read_97 : decode cX7_read 97 = .ok (.aload_n 0, 1) := by decide +kernel
theorem dX7_read_98 : decode cX7_read 98 = .ok (.getfield 10, 3) := by decide +kernel
theorem dX7_read_101 : decode cX7_read 101 = .ok (.iconst 0, 1) := by decide +kernel
theorem dX7_read_102 : decode cX7_read 102 = .ok (.putfield 91, 3) := by decide +kernel
theorem dX7_read_105 : decode cX7_read 105 = .ok (.aload_n 0, 1) := by decide +kernel
theorem dX7_read_106 : decode cX7_read 106 = .ok (.getfield 10, 3) := by decide +kernel
theorem dX7_read_109 : decode cX7_read 109 = .ok (.getfield 64, 3) := by decide +kernel
theorem dX7_read_112 : decode cX7_read 112 = .ok (.getfield 67, 3) := by decide +kernel
theorem dX7_read_115 : decode cX7_read 115 = .ok (.ireturn, 1) := by decide +kernel
set_option maxRecDepth 20000 in
theorem ggX7_drift_X1_keep : GoodIn wsX7_drift wsX1_keep := goodIn_r _ [8, 9, 10, 11, 12, 13, 7, 14, 15, 16, 17, 18, 19, 20, 21, 22, 23, 24, 25, 26, 27, 28, 29, 30, 31, 32, 33, 34, 35, 36, 37, 38, 39, 40, 94, 95, 84, 85, 86, 87, 88, 89, 90, 91, 92, 93, 96, 97] (by decide +kernel) (by decide +kernel)
set_option maxRecDepth 20000 in
theorem gX7_drift_X1_keep : GoodIn wsX7_drift (wsV RX7 83 RX1 yX1_keep wsX1_keep) := goodIn_app (goodIn_of _ (by decide +kernel)) ggX7_drift_X1_keep
set_option maxRecDepth 20000 in
theorem ggX7_drift_X2_turn : GoodIn wsX7_drift wsX2_turn := goodIn_r _ [44, 20, 45, 24, 46, 47, 48, 18, 49, 29, 50, 51, 52, 53, 54, 55, 33, 56, 35, 57, 58, 59, 60, 61, 62, 63, 64, 65, 66, 67, 68, 36, 69, 70, 71, 72, 84, 85, 86, 87, 88, 89, 90, 91, 92, 93, 96, 97] (by decide +kernel) (by decide +kernel)
set_option maxRecDepth 20000 in
theorem gX7_drift_X2_turn : GoodIn wsX7_drift (wsV RX7 227 RX2 yX2_turn wsX2_turn) := goodIn_app (goodIn_of _ (by decide +kernel)) ggX7_drift_X2_turn
set_option maxRecDepth 20000 in
theorem ggX7_drift_X5_all : GoodIn wsX7_drift wsX5_all := goodIn_r _ [60, 61, 62, 63, 33, 64, 35, 65, 66, 67, 68, 36, 96, 97] (by decide +kernel) (by decide +kernel)
set_option maxRecDepth 20000 in
theorem gX7_drift_X5_all : GoodIn wsX7_drift (wsV RX7 75 RX5 yX5_all wsX5_all) := goodIn_app (goodIn_of _ (by decide +kernel)) ggX7_drift_X5_all
theorem dX7_drift_0 : decode cX7_drift 0 = .ok (.iload_n 1, 1) := by decide +kernel
theorem dX7_drift_1 : decode cX7_drift 1 = .ok (.iconst 1, 1) := by decide +kernel
theorem dX7_drift_2 : decode cX7_drift 2 = .ok (.if_icmp .lt 9, 3) := by decide +kernel
theorem dX7_drift_5 : decode cX7_drift 5 = .ok (.iload_n 1, 1) := by decide +kernel
theorem dX7_drift_6 : decode cX7_drift 6 = .ok (.bipush 40, 2) := by decide +kernel
theorem dX7_drift_8 : decode cX7_drift 8 = .ok (.if_icmp .le 5, 3) := by decide +kernel
theorem dX7_drift_11 : decode cX7_drift 11 = .ok (.iconst (-1), 1) := by decide +kernel
theorem dX7_drift_12 : decode cX7_drift 12 = .ok (.ireturn, 1) := by decide +kernel
theorem dX7_drift_13 : decode cX7_drift 13 = .ok (.iconst 0, 1) := by decide +kernel
theorem dX7_drift_14 : decode cX7_drift 14 = .ok (.istore_n 2, 1) := by decide +kernel
theorem dX7_drift_15 : decode cX7_drift 15 = .ok (.iload_n 2, 1) := by decide +kernel
theorem dX7_drift_16 : decode cX7_drift 16 = .ok (.iload_n 1, 1) := by decide +kernel
theorem dX7_drift_17 : decode cX7_drift 17 = .ok (.if_icmp .ge 27, 3) := by decide +kernel
theorem dX7_drift_20 : decode cX7_drift 20 = .ok (.aload_n 0, 1) := by decide +kernel
theorem dX7_drift_21 : decode cX7_drift 21 = .ok (.getfield 19, 3) := by decide +kernel
theorem dX7_drift_24 : decode cX7_drift 24 = .ok (.aload_n 0, 1) := by decide +kernel
theorem dX7_drift_25 : decode cX7_drift 25 = .ok (.getfield 10, 3) := by decide +kernel
theorem dX7_drift_28 : decode cX7_drift 28 = .ok (.invokevirtual 83, 3) := by decide +kernel
theorem dX7_drift_31 : decode cX7_drift 31 = .ok (.aload_n 0, 1) := by decide +kernel
theorem dX7_drift_32 : decode cX7_drift 32 = .ok (.getfield 10, 3) := by decide +kernel
theorem dX7_drift_35 : decode cX7_drift 35 = .ok (.invokevirtual 227, 3) := by decide +kernel
theorem dX7_drift_38 : decode cX7_drift 38 = .ok (.iinc 2 1, 3) := by decide +kernel
theorem dX7_drift_41 : decode cX7_drift 41 = .ok (.goto (-26), 3) := by decide +kernel
theorem dX7_drift_44 : decode cX7_drift 44 = .ok (.aload_n 0, 1) := by decide +kernel
theorem dX7_drift_45 : decode cX7_drift 45 = .ok (.getfield 10, 3) := by decide +kernel
theorem dX7_drift_48 : decode cX7_drift 48 = .ok (.getfield 64, 3) := by decide +kernel
theorem dX7_drift_51 : decode cX7_drift 51 = .ok (.invokevirtual 75, 3) := by decide +kernel
theorem dX7_drift_54 : decode cX7_drift 54 = .ok (.ireturn, 1) := by decide +kernel
set_option maxRecDepth 20000 in
theorem ggX7_undo_X1_giveBack : GoodIn wsX7_undo wsX1_giveBack := goodIn_r _ [8, 9, 10, 11, 12, 13, 14, 15, 16, 17, 18, 19, 20, 21, 22, 23, 24, 25, 26, 27, 28, 29, 30, 31, 32, 33, 34, 35, 36, 47, 48, 49, 50, 51, 52, 53, 54, 55, 56, 57, 58, 59, 60] (by decide +kernel) (by decide +kernel)
set_option maxRecDepth 20000 in
theorem gX7_undo_X1_giveBack : GoodIn wsX7_undo (wsV RX7 230 RX1 yX1_giveBack wsX1_giveBack) := goodIn_app (goodIn_of _ (by decide +kernel)) ggX7_undo_X1_giveBack
theorem dX7_undo_0 : decode cX7_undo 0 = .ok (.aload_n 0, 1) := by decide +kernel
theorem dX7_undo_1 : decode cX7_undo 1 = .ok (.getfield 19, 3) := by decide +kernel
theorem dX7_undo_4 : decode cX7_undo 4 = .ok (.aload_n 0, 1) := by decide +kernel
theorem dX7_undo_5 : decode cX7_undo 5 = .ok (.getfield 10, 3) := by decide +kernel
theorem dX7_undo_8 : decode cX7_undo 8 = .ok (.invokevirtual 230, 3) := by decide +kernel
theorem dX7_undo_11 : decode cX7_undo 11 = .ok (.ifCond .eq 13, 3) := by decide +kernel
theorem dX7_undo_14 : decode cX7_undo 14 = .ok (.aload_n 0, 1) := by decide +kernel
theorem dX7_undo_15 : decode cX7_undo 15 = .ok (.getfield 19, 3) := by decide +kernel
theorem dX7_undo_18 : decode cX7_undo 18 = .ok (.getfield 149, 3) := by decide +kernel
theorem dX7_undo_21 : decode cX7_undo 21 = .ok (.goto 5, 3) := by decide +kernel
theorem dX7_undo_24 : decode cX7_undo 24 = .ok (.bipush (-4), 2) := by decide +kernel
theorem dX7_undo_26 : decode cX7_undo 26 = .ok (.ireturn, 1) := by decide +kernel
theorem dX7_seed_0 : decode cX7_seed 0 = .ok (.iload_n 1, 1) := by decide +kernel
theorem dX7_seed_1 : decode cX7_seed 1 = .ok (.ifCond .ge 5, 3) := by decide +kernel
theorem dX7_seed_4 : decode cX7_seed 4 = .ok (.iconst (-1), 1) := by decide +kernel
theorem dX7_seed_5 : decode cX7_seed 5 = .ok (.ireturn, 1) := by decide +kernel
theorem dX7_seed_6 : decode cX7_seed 6 = .ok (.aload_n 0, 1) := by decide +kernel
theorem dX7_seed_7 : decode cX7_seed 7 = .ok (.getfield 10, 3) := by decide +kernel
theorem dX7_seed_10 : decode cX7_seed 10 = .ok (.getfield 234, 3) := by decide +kernel
theorem dX7_seed_13 : decode cX7_seed 13 = .ok (.istore_n 2, 1) := by decide +kernel
theorem dX7_seed_14 : decode cX7_seed 14 = .ok (.aload_n 0, 1) := by decide +kernel
theorem dX7_seed_15 : decode cX7_seed 15 = .ok (.getfield 10, 3) := by decide +kernel
theorem dX7_seed_18 : decode cX7_seed 18 = .ok (.iload_n 1, 1) := by decide +kernel
theorem dX7_seed_19 : decode cX7_seed 19 = .ok (.putfield 234, 3) := by decide +kernel
theorem dX7_seed_22 : decode cX7_seed 22 = .ok (.iload_n 2, 1) := by decide +kernel
theorem dX7_seed_23 : decode cX7_seed 23 = .ok (.ireturn, 1) := by decide +kernel
set_option maxRecDepth 20000 in
theorem ggX7_image_X2_takeFrom : GoodIn wsX7_image wsX2_takeFrom := goodIn_r _ [10, 11, 12, 13, 14, 15, 16, 17, 18, 19, 20, 21, 22, 23, 24, 25, 26, 27, 28, 29, 30, 31, 50, 51, 52, 53, 54, 55, 56, 57, 58, 59, 60, 61] (by decide +kernel) (by decide +kernel)
set_option maxRecDepth 20000 in
theorem gX7_image_X2_takeFrom : GoodIn wsX7_image (wsV RX7 237 RX2 yX2_takeFrom wsX2_takeFrom) := goodIn_app (goodIn_of _ (by decide +kernel)) ggX7_image_X2_takeFrom
set_option maxRecDepth 20000 in
theorem ggX7_image_X1_takeFrom : GoodIn wsX7_image wsX1_takeFrom := goodIn_r _ [36, 37, 38, 39, 7, 8, 9, 10, 11, 12, 13, 14, 15, 16, 17, 18, 19, 20, 21, 22, 23, 24, 25, 26, 27, 28, 29, 30, 31, 62, 63, 50, 51, 52, 53, 54, 55, 56, 57, 58, 59, 60, 61] (by decide +kernel) (by decide +kernel)
set_option maxRecDepth 20000 in
theorem gX7_image_X1_takeFrom : GoodIn wsX7_image (wsV RX7 239 RX1 yX1_takeFrom wsX1_takeFrom) := goodIn_app (goodIn_of _ (by decide +kernel)) ggX7_image_X1_takeFrom
theorem dX7_image_0 : decode cX7_image 0 = .ok (.aload_n 0, 1) := by decide +kernel
theorem dX7_image_1 : decode cX7_image 1 = .ok (.getfield 23, 3) := by decide +kernel
theorem dX7_image_4 : decode cX7_image 4 = .ok (.aload_n 0, 1) := by decide +kernel
theorem dX7_image_5 : decode cX7_image 5 = .ok (.getfield 10, 3) := by decide +kernel
theorem dX7_image_8 : decode cX7_image 8 = .ok (.invokevirtual 237, 3) := by decide +kernel
theorem dX7_image_11 : decode cX7_image 11 = .ok (.aload_n 0, 1) := by decide +kernel
theorem dX7_image_12 : decode cX7_image 12 = .ok (.getfield 26, 3) := by decide +kernel
theorem dX7_image_15 : decode cX7_image 15 = .ok (.aload_n 0, 1) := by decide +kernel
theorem dX7_image_16 : decode cX7_image 16 = .ok (.getfield 19, 3) := by decide +kernel
theorem dX7_image_19 : decode cX7_image 19 = .ok (.invokevirtual 239, 3) := by decide +kernel
theorem dX7_image_22 : decode cX7_image 22 = .ok (.aload_n 0, 1) := by decide +kernel
theorem dX7_image_23 : decode cX7_image 23 = .ok (.iconst 1, 1) := by decide +kernel
theorem dX7_image_24 : decode cX7_image 24 = .ok (.putfield 242, 3) := by decide +kernel
theorem dX7_image_27 : decode cX7_image 27 = .ok (.iconst 1, 1) := by decide +kernel
theorem dX7_image_28 : decode cX7_image 28 = .ok (.ireturn, 1) := by decide +kernel
set_option maxRecDepth 20000 in
theorem ggX7_restore_X2_takeFrom : GoodIn wsX7_restore wsX2_takeFrom := goodIn_r _ [10, 11, 12, 13, 14, 15, 16, 17, 18, 19, 20, 21, 22, 23, 24, 25, 26, 27, 28, 29, 30, 31, 50, 51, 52, 53, 54, 55, 56, 57, 58, 59, 60, 61] (by decide +kernel) (by decide +kernel)
set_option maxRecDepth 20000 in
theorem gX7_restore_X2_takeFrom : GoodIn wsX7_restore (wsV RX7 237 RX2 yX2_takeFrom wsX2_takeFrom) := goodIn_app (goodIn_of _ (by decide +kernel)) ggX7_restore_X2_takeFrom
set_option maxRecDepth 20000 in
theorem ggX7_restore_X1_takeFrom : GoodIn wsX7_restore wsX1_takeFrom := goodIn_r _ [36, 37, 38, 39, 7, 8, 9, 10, 11, 12, 13, 14, 15, 16, 17, 18, 19, 20, 21, 22, 23, 24, 25, 26, 27, 28, 29, 30, 31, 62, 63, 50, 51, 52, 53, 54, 55, 56, 57, 58, 59, 60, 61] (by decide +kernel) (by decide +kernel)
set_option maxRecDepth 20000 in
theorem gX7_restore_X1_takeFrom : GoodIn wsX7_restore (wsV RX7 239 RX1 yX1_takeFrom wsX1_takeFrom) := goodIn_app (goodIn_of _ (by decide +kernel)) ggX7_restore_X1_takeFrom
theorem dX7_restore_0 : decode cX7_restore 0 = .ok (.aload_n 0, 1) := by decide +kernel
theorem dX7_restore_1 : decode cX7_restore 1 = .ok (.getfield 242, 3) := by decide +kernel
theorem dX7_restore_4 : decode cX7_restore 4 = .ok (.ifCond .ne 6, 3) := by decide +kernel
theorem dX7_restore_7 : decode cX7_restore 7 = .ok (.bipush (-4), 2) := by decide +kernel
theorem dX7_restore_9 : decode cX7_restore 9 = .ok (.ireturn, 1) := by decide +kernel
theorem dX7_restore_10 : decode cX7_restore 10 = .ok (.aload_n 0, 1) := by decide +kernel
theorem dX7_restore_11 : decode cX7_restore 11 = .ok (.getfield 10, 3) := by decide +kernel
theorem dX7_restore_14 : decode cX7_restore 14 = .ok (.aload_n 0, 1) := by decide +kernel
theorem dX7_restore_15 : decode cX7_restore 15 = .ok (.getfield 23, 3) := by decide +kernel
theorem dX7_restore_18 : decode cX7_restore 18 = .ok (.invokevirtual 237, 3) := by decide +kernel
theorem dX7_restore_21 : decode cX7_restore 21 = .ok (.aload_n 0, 1) := by decide +kernel
theorem dX7_restore_22 : decode cX7_restore 22 = .ok (.getfield 19, 3) := by decide +kernel
theorem dX7_restore_25 : decode cX7_restore 25 = .ok (.aload_n 0, 1) := by decide +kernel
theorem dX7_restore_26 : decode cX7_restore 26 = .ok (.getfield 26, 3) := by decide +kernel
theorem dX7_restore_29 : decode cX7_restore 29 = .ok (.invokevirtual 239, 3) := by decide +kernel
theorem dX7_restore_32 : decode cX7_restore 32 = .ok (.iconst 1, 1) := by decide +kernel
theorem dX7_restore_33 : decode cX7_restore 33 = .ok (.ireturn, 1) := by decide +kernel
set_option maxRecDepth 20000 in
theorem ggX7_seen_X7_isNoSheet : GoodIn wsX7_seen wsX7_isNoSheet := goodIn_r _ [10] (by decide +kernel) (by decide +kernel)
set_option maxRecDepth 20000 in
theorem gX7_seen_X7_isNoSheet : GoodIn wsX7_seen (va_wsS RX7 245 yX7_isNoSheet wsX7_isNoSheet) := goodIn_app (goodIn_of _ (by decide +kernel)) ggX7_seen_X7_isNoSheet
set_option maxRecDepth 20000 in
theorem ggX7_seen_X7_isNoLane : GoodIn wsX7_seen wsX7_isNoLane := goodIn_r _ [13] (by decide +kernel) (by decide +kernel)
set_option maxRecDepth 20000 in
theorem gX7_seen_X7_isNoLane : GoodIn wsX7_seen (va_wsS RX7 248 yX7_isNoLane wsX7_isNoLane) := goodIn_app (goodIn_of _ (by decide +kernel)) ggX7_seen_X7_isNoLane
set_option maxRecDepth 20000 in
theorem ggX7_seen_X4_refusal : GoodIn wsX7_seen wsX4_refusal := goodIn_r _ [18, 19, 20, 21, 22, 23, 17, 24, 25, 98, 99, 100, 101] (by decide +kernel) (by decide +kernel)
set_option maxRecDepth 20000 in
theorem gX7_seen_X4_refusal : GoodIn wsX7_seen (wsV RX7 251 RX4 yX4_refusal wsX4_refusal) := goodIn_app (goodIn_of _ (by decide +kernel)) ggX7_seen_X4_refusal
set_option maxRecDepth 20000 in
theorem ggX7_seen_X5_empty : GoodIn wsX7_seen wsX5_empty := goodIn_r _ [30, 31, 32, 33, 34, 35, 36, 102, 103] (by decide +kernel) (by decide +kernel)
set_option maxRecDepth 20000 in
theorem gX7_seen_X5_empty : GoodIn wsX7_seen (wsV RX7 254 RX5 yX5_empty wsX5_empty) := goodIn_app (goodIn_of _ (by decide +kernel)) ggX7_seen_X5_empty
set_option maxRecDepth 20000 in
theorem ggX7_seen_X4_get : GoodIn wsX7_seen wsX4_get := goodIn_r _ [40, 41, 98, 99, 100, 101] (by decide +kernel) (by decide +kernel)
set_option maxRecDepth 20000 in
theorem gX7_seen_X4_get : GoodIn wsX7_seen (wsV RX7 257 RX4 yX4_get wsX4_get) := goodIn_app (goodIn_of _ (by decide +kernel)) ggX7_seen_X4_get
set_option maxRecDepth 20000 in
theorem ggX7_seen_X5_addOne : GoodIn wsX7_seen wsX5_addOne := goodIn_r _ [45, 31, 46, 47, 48, 49, 50, 51, 52, 29, 53, 32, 54, 55, 56, 57, 102, 103] (by decide +kernel) (by decide +kernel)
set_option maxRecDepth 20000 in
theorem gX7_seen_X5_addOne : GoodIn wsX7_seen (wsV RX7 262 RX5 yX5_addOne wsX5_addOne) := goodIn_app (goodIn_of _ (by decide +kernel)) ggX7_seen_X5_addOne
set_option maxRecDepth 20000 in
theorem ggX7_seen_X5_bestAge : GoodIn wsX7_seen wsX5_bestAge := goodIn_r _ [61, 31, 62, 63, 64, 29, 65, 66, 67, 68, 69, 70, 71, 72, 73, 50, 51, 52, 53, 32, 74, 75, 76, 77, 102, 103] (by decide +kernel) (by decide +kernel)
set_option maxRecDepth 20000 in
theorem gX7_seen_X5_bestAge : GoodIn wsX7_seen (wsV RX7 141 RX5 yX5_bestAge wsX5_bestAge) := goodIn_app (goodIn_of _ (by decide +kernel)) ggX7_seen_X5_bestAge
theorem dX7_seen_0 : decode cX7_seen 0 = .ok (.iload_n 1, 1) := by decide +kernel
theorem dX7_seen_1 : decode cX7_seen 1 = .ok (.invokestatic 245, 3) := by decide +kernel
theorem dX7_seen_4 : decode cX7_seen 4 = .ok (.ifCond .ne 23, 3) := by decide +kernel
theorem dX7_seen_7 : decode cX7_seen 7 = .ok (.iload_n 2, 1) := by decide +kernel
theorem dX7_seen_8 : decode cX7_seen 8 = .ok (.invokestatic 248, 3) := by decide +kernel
theorem dX7_seen_11 : decode cX7_seen 11 = .ok (.ifCond .ne 16, 3) := by decide +kernel
theorem dX7_seen_14 : decode cX7_seen 14 = .ok (.iload 4, 2) := by decide +kernel
theorem dX7_seen_16 : decode cX7_seen 16 = .ok (.iconst 1, 1) := by decide +kernel
theorem dX7_seen_17 : decode cX7_seen 17 = .ok (.if_icmp .lt 10, 3) := by decide +kernel
theorem dX7_seen_20 : decode cX7_seen 20 = .ok (.iload 4, 2) := by decide +kernel
theorem dX7_seen_22 : decode cX7_seen 22 = .ok (.bipush 12, 2) := by decide +kernel
theorem dX7_seen_24 : decode cX7_seen 24 = .ok (.if_icmp .le 5, 3) := by decide +kernel
theorem dX7_seen_27 : decode cX7_seen 27 = .ok (.iconst (-1), 1) := by decide +kernel
theorem dX7_seen_28 : decode cX7_seen 28 = .ok (.ireturn, 1) := by decide +kernel
theorem dX7_seen_29 : decode cX7_seen 29 = .ok (.aload_n 0, 1) := by decide +kernel
theorem dX7_seen_30 : decode cX7_seen 30 = .ok (.getfield 38, 3) := by decide +kernel
theorem dX7_seen_33 : decode cX7_seen 33 = .ok (.iload_n 1, 1) := by decide +kernel
theorem dX7_seen_34 : decode cX7_seen 34 = .ok (.aaload, 1) := by decide +kernel
theorem dX7_seen_35 : decode cX7_seen 35 = .ok (.astore 5, 2) := by decide +kernel
theorem dX7_seen_37 : decode cX7_seen 37 = .ok (.aload 5, 2) := by decide +kernel
theorem dX7_seen_39 : decode cX7_seen 39 = .ok (.iload_n 2, 1) := by decide +kernel
theorem dX7_seen_40 : decode cX7_seen 40 = .ok (.iload_n 3, 1) := by decide +kernel
theorem dX7_seen_41 : decode cX7_seen 41 = .ok (.iload 4, 2) := by decide +kernel
theorem dX7_seen_43 : decode cX7_seen 43 = .ok (.invokevirtual 251, 3) := by decide +kernel
theorem dX7_seen_46 : decode cX7_seen 46 = .ok (.istore 6, 2) := by decide +kernel
theorem dX7_seen_48 : decode cX7_seen 48 = .ok (.iload 6, 2) := by decide +kernel
theorem dX7_seen_50 : decode cX7_seen 50 = .ok (.ifCond .eq 6, 3) := by decide +kernel
theorem dX7_seen_53 : decode cX7_seen 53 = .ok (.iload 6, 2) := by decide +kernel
theorem dX7_seen_55 : decode cX7_seen 55 = .ok (.ireturn, 1) := by decide +kernel
theorem dX7_seen_56 : decode cX7_seen 56 = .ok (.aload_n 0, 1) := by decide +kernel
theorem dX7_seen_57 : decode cX7_seen 57 = .ok (.getfield 45, 3) := by decide +kernel
theorem dX7_seen_60 : decode cX7_seen 60 = .ok (.invokevirtual 254, 3) := by decide +kernel
theorem dX7_seen_63 : decode cX7_seen 63 = .ok (.iload_n 3, 1) := by decide +kernel
theorem dX7_seen_64 : decode cX7_seen 64 = .ok (.istore 7, 2) := by decide +kernel
theorem dX7_seen_66 : decode cX7_seen 66 = .ok (.iload 7, 2) := by decide +kernel
theorem dX7_seen_68 : decode cX7_seen 68 = .ok (.iload_n 3, 1) := by decide +kernel
theorem dX7_seen_69 : decode cX7_seen 69 = .ok (.iload 4, 2) := by decide +kernel
theorem dX7_seen_71 : decode cX7_seen 71 = .ok (.iadd, 1) := by decide +kernel
theorem dX7_seen_72 : decode cX7_seen 72 = .ok (.if_icmp .ge 47, 3) := by decide +kernel
theorem dX7_seen_75 : decode cX7_seen 75 = .ok (.aload 5, 2) := by decide +kernel
theorem dX7_seen_77 : decode cX7_seen 77 = .ok (.iload 7, 2) := by decide +kernel
theorem dX7_seen_79 : decode cX7_seen 79 = .ok (.invokevirtual 257, 3) := by decide +kernel
theorem dX7_seen_82 : decode cX7_seen 82 = .ok (.lstore 8, 2) := by decide +kernel
theorem dX7_seen_84 : decode cX7_seen 84 = .ok (.lload 8, 2) := by decide +kernel
theorem dX7_seen_86 : decode cX7_seen 86 = .ok (.lconst 1, 1) := by decide +kernel
theorem dX7_seen_87 : decode cX7_seen 87 = .ok (.lcmp, 1) := by decide +kernel
theorem dX7_seen_88 : decode cX7_seen 88 = .ok (.ifCond .lt 12, 3) := by decide +kernel
theorem dX7_seen_91 : decode cX7_seen 91 = .ok (.lload 8, 2) := by decide +kernel
theorem dX7_seen_93 : decode cX7_seen 93 = .ok (.ldc2_w 260, 3) := by decide +kernel
theorem dX7_seen_96 : decode cX7_seen 96 = .ok (.lcmp, 1) := by decide +kernel
theorem dX7_seen_97 : decode cX7_seen 97 = .ok (.ifCond .le 6, 3) := by decide +kernel
theorem dX7_seen_100 : decode cX7_seen 100 = .ok (.bipush (-2), 2) := by decide +kernel
theorem dX7_seen_102 : decode cX7_seen 102 = .ok (.ireturn, 1) := by decide +kernel
theorem dX7_seen_103 : decode cX7_seen 103 = .ok (.aload_n 0, 1) := by decide +kernel
theorem dX7_seen_104 : decode cX7_seen 104 = .ok (.getfield 45, 3) := by decide +kernel
theorem dX7_seen_107 : decode cX7_seen 107 = .ok (.lload 8, 2) := by decide +kernel
theorem dX7_seen_109 : decode cX7_seen 109 = .ok (.l2i, 1) := by decide +kernel
theorem dX7_seen_110 : decode cX7_seen 110 = .ok (.invokevirtual 262, 3) := by decide +kernel
theorem dX7_seen_113 : decode cX7_seen 113 = .ok (.iinc 7 1, 3) := by decide +kernel
theorem dX7_seen_116 : decode cX7_seen 116 = .ok (.goto (-50), 3) := by decide +kernel
theorem dX7_seen_119 : decode cX7_seen 119 = .ok (.aload_n 0, 1) := by decide +kernel
theorem dX7_seen_120 : decode cX7_seen 120 = .ok (.getfield 45, 3) := by decide +kernel
theorem dX7_seen_123 : decode cX7_seen 123 = .ok (.aload_n 0, 1) := by decide +kernel
theorem dX7_seen_124 : decode cX7_seen 124 = .ok (.getfield 10, 3) := by decide +kernel
theorem dX7_seen_127 : decode cX7_seen 127 = .ok (.getfield 117, 3) := by decide +kernel
theorem dX7_seen_130 : decode cX7_seen 130 = .ok (.aload_n 0, 1) := by decide +kernel
theorem dX7_seen_131 : decode cX7_seen 131 = .ok (.getfield 10, 3) := by decide +kernel
theorem dX7_seen_134 : decode cX7_seen 134 = .ok (.getfield 120, 3) := by decide +kernel
theorem dX7_seen_137 : decode cX7_seen 137 = .ok (.invokevirtual 141, 3) := by decide +kernel
theorem dX7_seen_140 : decode cX7_seen 140 = .ok (.ireturn, 1) := by decide +kernel
set_option maxRecDepth 20000 in
theorem ggX7_film_X7_isNoSheet : GoodIn wsX7_film wsX7_isNoSheet := goodIn_r _ [8] (by decide +kernel) (by decide +kernel)
set_option maxRecDepth 20000 in
theorem gX7_film_X7_isNoSheet : GoodIn wsX7_film (va_wsS RX7 245 yX7_isNoSheet wsX7_isNoSheet) := goodIn_app (goodIn_of _ (by decide +kernel)) ggX7_film_X7_isNoSheet
set_option maxRecDepth 20000 in
theorem ggX7_film_X7_isNoLane : GoodIn wsX7_film wsX7_isNoLane := goodIn_r _ [11] (by decide +kernel) (by decide +kernel)
set_option maxRecDepth 20000 in
theorem gX7_film_X7_isNoLane : GoodIn wsX7_film (va_wsS RX7 248 yX7_isNoLane wsX7_isNoLane) := goodIn_app (goodIn_of _ (by decide +kernel)) ggX7_film_X7_isNoLane
set_option maxRecDepth 20000 in
theorem ggX7_film_X4_refusal : GoodIn wsX7_film wsX4_refusal := goodIn_r _ [16, 17, 18, 19, 20, 21, 15, 22, 23, 62, 63, 64, 65] (by decide +kernel) (by decide +kernel)
set_option maxRecDepth 20000 in
theorem gX7_film_X4_refusal : GoodIn wsX7_film (wsV RX7 251 RX4 yX4_refusal wsX4_refusal) := goodIn_app (goodIn_of _ (by decide +kernel)) ggX7_film_X4_refusal
set_option maxRecDepth 20000 in
theorem ggX7_film_X5_weightOf : GoodIn wsX7_film wsX5_weightOf := goodIn_r _ [28, 29, 30, 60, 61] (by decide +kernel) (by decide +kernel)
set_option maxRecDepth 20000 in
theorem gX7_film_X5_weightOf : GoodIn wsX7_film (wsV RX7 71 RX5 yX5_weightOf wsX5_weightOf) := goodIn_app (goodIn_of _ (by decide +kernel)) ggX7_film_X5_weightOf
set_option maxRecDepth 20000 in
theorem ggX7_film_X4_put : GoodIn wsX7_film wsX4_put := goodIn_r _ [34, 35, 36, 37, 38, 15, 39, 18, 62, 63, 64, 65] (by decide +kernel) (by decide +kernel)
set_option maxRecDepth 20000 in
theorem gX7_film_X4_put : GoodIn wsX7_film (wsV RX7 265 RX4 yX4_put wsX4_put) := goodIn_app (goodIn_of _ (by decide +kernel)) ggX7_film_X4_put
theorem dX7_film_0 : decode cX7_film 0 = .ok (.iload_n 1, 1) := by decide +kernel
theorem dX7_film_1 : decode cX7_film 1 = .ok (.invokestatic 245, 3) := by decide +kernel
theorem dX7_film_4 : decode cX7_film 4 = .ok (.ifCond .ne 10, 3) := by decide +kernel
theorem dX7_film_7 : decode cX7_film 7 = .ok (.iload_n 2, 1) := by decide +kernel
theorem dX7_film_8 : decode cX7_film 8 = .ok (.invokestatic 248, 3) := by decide +kernel
theorem dX7_film_11 : decode cX7_film 11 = .ok (.ifCond .eq 5, 3) := by decide +kernel
theorem dX7_film_14 : decode cX7_film 14 = .ok (.iconst (-1), 1) := by decide +kernel
theorem dX7_film_15 : decode cX7_film 15 = .ok (.ireturn, 1) := by decide +kernel
theorem dX7_film_16 : decode cX7_film 16 = .ok (.aload_n 0, 1) := by decide +kernel
theorem dX7_film_17 : decode cX7_film 17 = .ok (.getfield 38, 3) := by decide +kernel
theorem dX7_film_20 : decode cX7_film 20 = .ok (.iload_n 1, 1) := by decide +kernel
theorem dX7_film_21 : decode cX7_film 21 = .ok (.aaload, 1) := by decide +kernel
theorem dX7_film_22 : decode cX7_film 22 = .ok (.astore 4, 2) := by decide +kernel
theorem dX7_film_24 : decode cX7_film 24 = .ok (.aload_n 0, 1) := by decide +kernel
theorem dX7_film_25 : decode cX7_film 25 = .ok (.getfield 10, 3) := by decide +kernel
theorem dX7_film_28 : decode cX7_film 28 = .ok (.getfield 64, 3) := by decide +kernel
theorem dX7_film_31 : decode cX7_film 31 = .ok (.getfield 67, 3) := by decide +kernel
theorem dX7_film_34 : decode cX7_film 34 = .ok (.istore 5, 2) := by decide +kernel
theorem dX7_film_36 : decode cX7_film 36 = .ok (.aload 4, 2) := by decide +kernel
theorem dX7_film_38 : decode cX7_film 38 = .ok (.iload_n 2, 1) := by decide +kernel
theorem dX7_film_39 : decode cX7_film 39 = .ok (.iload_n 3, 1) := by decide +kernel
theorem dX7_film_40 : decode cX7_film 40 = .ok (.iload 5, 2) := by decide +kernel
theorem dX7_film_42 : decode cX7_film 42 = .ok (.invokevirtual 251, 3) := by decide +kernel
theorem dX7_film_45 : decode cX7_film 45 = .ok (.istore 6, 2) := by decide +kernel
theorem dX7_film_47 : decode cX7_film 47 = .ok (.iload 6, 2) := by decide +kernel
theorem dX7_film_49 : decode cX7_film 49 = .ok (.ifCond .eq 6, 3) := by decide +kernel
theorem dX7_film_52 : decode cX7_film 52 = .ok (.iload 6, 2) := by decide +kernel
theorem dX7_film_54 : decode cX7_film 54 = .ok (.ireturn, 1) := by decide +kernel
theorem dX7_film_55 : decode cX7_film 55 = .ok (.iconst 1, 1) := by decide +kernel
theorem dX7_film_56 : decode cX7_film 56 = .ok (.istore 7, 2) := by decide +kernel
theorem dX7_film_58 : decode cX7_film 58 = .ok (.iload 7, 2) := by decide +kernel
theorem dX7_film_60 : decode cX7_film 60 = .ok (.iload 5, 2) := by decide +kernel
theorem dX7_film_62 : decode cX7_film 62 = .ok (.if_icmp .gt 33, 3) := by decide +kernel
theorem dX7_film_65 : decode cX7_film 65 = .ok (.aload 4, 2) := by decide +kernel
theorem dX7_film_67 : decode cX7_film 67 = .ok (.iload_n 3, 1) := by decide +kernel
theorem dX7_film_68 : decode cX7_film 68 = .ok (.iload 7, 2) := by decide +kernel
theorem dX7_film_70 : decode cX7_film 70 = .ok (.iadd, 1) := by decide +kernel
theorem dX7_film_71 : decode cX7_film 71 = .ok (.iconst 1, 1) := by decide +kernel
theorem dX7_film_72 : decode cX7_film 72 = .ok (.isub, 1) := by decide +kernel
theorem dX7_film_73 : decode cX7_film 73 = .ok (.aload_n 0, 1) := by decide +kernel
theorem dX7_film_74 : decode cX7_film 74 = .ok (.getfield 10, 3) := by decide +kernel
theorem dX7_film_77 : decode cX7_film 77 = .ok (.getfield 64, 3) := by decide +kernel
theorem dX7_film_80 : decode cX7_film 80 = .ok (.iload 7, 2) := by decide +kernel
theorem dX7_film_82 : decode cX7_film 82 = .ok (.invokevirtual 71, 3) := by decide +kernel
theorem dX7_film_85 : decode cX7_film 85 = .ok (.i2l, 1) := by decide +kernel
theorem dX7_film_86 : decode cX7_film 86 = .ok (.invokevirtual 265, 3) := by decide +kernel
theorem dX7_film_89 : decode cX7_film 89 = .ok (.iinc 7 1, 3) := by decide +kernel
theorem dX7_film_92 : decode cX7_film 92 = .ok (.goto (-34), 3) := by decide +kernel
theorem dX7_film_95 : decode cX7_film 95 = .ok (.iload 5, 2) := by decide +kernel
theorem dX7_film_97 : decode cX7_film 97 = .ok (.ireturn, 1) := by decide +kernel
set_option maxRecDepth 20000 in
theorem ggX7_sheet_X7_isNoSheet : GoodIn wsX7_sheet wsX7_isNoSheet := goodIn_r _ [5] (by decide +kernel) (by decide +kernel)
set_option maxRecDepth 20000 in
theorem gX7_sheet_X7_isNoSheet : GoodIn wsX7_sheet (va_wsS RX7 245 yX7_isNoSheet wsX7_isNoSheet) := goodIn_app (goodIn_of _ (by decide +kernel)) ggX7_sheet_X7_isNoSheet
set_option maxRecDepth 20000 in
theorem ggX7_sheet_X7_isNoLane : GoodIn wsX7_sheet wsX7_isNoLane := goodIn_r _ [8] (by decide +kernel) (by decide +kernel)
set_option maxRecDepth 20000 in
theorem gX7_sheet_X7_isNoLane : GoodIn wsX7_sheet (va_wsS RX7 248 yX7_isNoLane wsX7_isNoLane) := goodIn_app (goodIn_of _ (by decide +kernel)) ggX7_sheet_X7_isNoLane
set_option maxRecDepth 20000 in
theorem ggX7_sheet_X4_begin : GoodIn wsX7_sheet wsX4_begin := goodIn_r _ [13, 14, 15, 16, 17, 18, 19, 20, 21, 32, 33, 34, 35] (by decide +kernel) (by decide +kernel)
set_option maxRecDepth 20000 in
theorem gX7_sheet_X4_begin : GoodIn wsX7_sheet (wsV RX7 268 RX4 yX4_begin wsX4_begin) := goodIn_app (goodIn_of _ (by decide +kernel)) ggX7_sheet_X4_begin
theorem dX7_sheet_0 : decode cX7_sheet 0 = .ok (.iload_n 1, 1) := by decide +kernel
theorem dX7_sheet_1 : decode cX7_sheet 1 = .ok (.invokestatic 245, 3) := by decide +kernel
theorem dX7_sheet_4 : decode cX7_sheet 4 = .ok (.ifCond .ne 16, 3) := by decide +kernel
theorem dX7_sheet_7 : decode cX7_sheet 7 = .ok (.iload_n 2, 1) := by decide +kernel
theorem dX7_sheet_8 : decode cX7_sheet 8 = .ok (.invokestatic 248, 3) := by decide +kernel
theorem dX7_sheet_11 : decode cX7_sheet 11 = .ok (.ifCond .ne 9, 3) := by decide +kernel
theorem dX7_sheet_14 : decode cX7_sheet 14 = .ok (.iload_n 3, 1) := by decide +kernel
theorem dX7_sheet_15 : decode cX7_sheet 15 = .ok (.bipush 24, 2) := by decide +kernel
theorem dX7_sheet_17 : decode cX7_sheet 17 = .ok (.if_icmp .le 5, 3) := by decide +kernel
theorem dX7_sheet_20 : decode cX7_sheet 20 = .ok (.iconst (-1), 1) := by decide +kernel
theorem dX7_sheet_21 : decode cX7_sheet 21 = .ok (.ireturn, 1) := by decide +kernel
theorem dX7_sheet_22 : decode cX7_sheet 22 = .ok (.iload_n 3, 1) := by decide +kernel
theorem dX7_sheet_23 : decode cX7_sheet 23 = .ok (.ifCond .ge 6, 3) := by decide +kernel
theorem dX7_sheet_26 : decode cX7_sheet 26 = .ok (.bipush (-14), 2) := by decide +kernel
theorem dX7_sheet_28 : decode cX7_sheet 28 = .ok (.ireturn, 1) := by decide +kernel
theorem dX7_sheet_29 : decode cX7_sheet 29 = .ok (.aload_n 0, 1) := by decide +kernel
theorem dX7_sheet_30 : decode cX7_sheet 30 = .ok (.getfield 38, 3) := by decide +kernel
theorem dX7_sheet_33 : decode cX7_sheet 33 = .ok (.iload_n 1, 1) := by decide +kernel
theorem dX7_sheet_34 : decode cX7_sheet 34 = .ok (.aaload, 1) := by decide +kernel
theorem dX7_sheet_35 : decode cX7_sheet 35 = .ok (.iload_n 2, 1) := by decide +kernel
theorem dX7_sheet_36 : decode cX7_sheet 36 = .ok (.iload_n 3, 1) := by decide +kernel
theorem dX7_sheet_37 : decode cX7_sheet 37 = .ok (.invokevirtual 268, 3) := by decide +kernel
theorem dX7_sheet_40 : decode cX7_sheet 40 = .ok (.iload_n 3, 1) := by decide +kernel
theorem dX7_sheet_41 : decode cX7_sheet 41 = .ok (.ireturn, 1) := by decide +kernel
set_option maxRecDepth 20000 in
theorem ggX7_drop_X7_isNoSheet : GoodIn wsX7_drop wsX7_isNoSheet := goodIn_r _ [7] (by decide +kernel) (by decide +kernel)
set_option maxRecDepth 20000 in
theorem gX7_drop_X7_isNoSheet : GoodIn wsX7_drop (va_wsS RX7 245 yX7_isNoSheet wsX7_isNoSheet) := goodIn_app (goodIn_of _ (by decide +kernel)) ggX7_drop_X7_isNoSheet
theorem dX7_drop_0 : decode cX7_drop 0 = .ok (.iload_n 1, 1) := by decide +kernel
theorem dX7_drop_1 : decode cX7_drop 1 = .ok (.invokestatic 245, 3) := by decide +kernel
theorem dX7_drop_4 : decode cX7_drop 4 = .ok (.ifCond .eq 5, 3) := by decide +kernel
theorem dX7_drop_7 : decode cX7_drop 7 = .ok (.iconst (-1), 1) := by decide +kernel
theorem dX7_drop_8 : decode cX7_drop 8 = .ok (.ireturn, 1) := by decide +kernel
theorem dX7_drop_9 : decode cX7_drop 9 = .ok (.aload_n 0, 1) := by decide +kernel
theorem dX7_drop_10 : decode cX7_drop 10 = .ok (.getfield 38, 3) := by decide +kernel
theorem dX7_drop_13 : decode cX7_drop 13 = .ok (.iload_n 1, 1) := by decide +kernel
theorem dX7_drop_14 : decode cX7_drop 14 = .ok (.aaload, 1) := by decide +kernel
theorem dX7_drop_15 : decode cX7_drop 15 = .ok (.astore_n 2, 1) := by decide +kernel
theorem dX7_drop_16 : decode cX7_drop 16 = .ok (.aload_n 2, 1) := by decide +kernel
theorem dX7_drop_17 : decode cX7_drop 17 = .ok (.getfield 271, 3) := by decide +kernel
theorem dX7_drop_20 : decode cX7_drop 20 = .ok (.ifCond .ne 6, 3) := by decide +kernel
theorem dX7_drop_23 : decode cX7_drop 23 = .ok (.bipush (-11), 2) := by decide +kernel
theorem dX7_drop_25 : decode cX7_drop 25 = .ok (.ireturn, 1) := by decide +kernel
theorem dX7_drop_26 : decode cX7_drop 26 = .ok (.aload_n 2, 1) := by decide +kernel
theorem dX7_drop_27 : decode cX7_drop 27 = .ok (.iconst 0, 1) := by decide +kernel
theorem dX7_drop_28 : decode cX7_drop 28 = .ok (.putfield 271, 3) := by decide +kernel
theorem dX7_drop_31 : decode cX7_drop 31 = .ok (.aload_n 2, 1) := by decide +kernel
theorem dX7_drop_32 : decode cX7_drop 32 = .ok (.getfield 274, 3) := by decide +kernel
theorem dX7_drop_35 : decode cX7_drop 35 = .ok (.ireturn, 1) := by decide +kernel
set_option maxRecDepth 20000 in
theorem ggX7_item_X7_isNoSheet : GoodIn wsX7_item wsX7_isNoSheet := goodIn_r _ [5] (by decide +kernel) (by decide +kernel)
set_option maxRecDepth 20000 in
theorem gX7_item_X7_isNoSheet : GoodIn wsX7_item (va_wsS RX7 245 yX7_isNoSheet wsX7_isNoSheet) := goodIn_app (goodIn_of _ (by decide +kernel)) ggX7_item_X7_isNoSheet
set_option maxRecDepth 20000 in
theorem ggX7_item_X7_isNoLane : GoodIn wsX7_item wsX7_isNoLane := goodIn_r _ [8] (by decide +kernel) (by decide +kernel)
set_option maxRecDepth 20000 in
theorem gX7_item_X7_isNoLane : GoodIn wsX7_item (va_wsS RX7 248 yX7_isNoLane wsX7_isNoLane) := goodIn_app (goodIn_of _ (by decide +kernel)) ggX7_item_X7_isNoLane
set_option maxRecDepth 20000 in
theorem ggX7_item_X4_refusal : GoodIn wsX7_item wsX4_refusal := goodIn_r _ [13, 14, 15, 16, 17, 18, 12, 19, 20, 40, 41, 42, 43] (by decide +kernel) (by decide +kernel)
set_option maxRecDepth 20000 in
theorem gX7_item_X4_refusal : GoodIn wsX7_item (wsV RX7 251 RX4 yX4_refusal wsX4_refusal) := goodIn_app (goodIn_of _ (by decide +kernel)) ggX7_item_X4_refusal
set_option maxRecDepth 20000 in
theorem ggX7_item_X4_put : GoodIn wsX7_item wsX4_put := goodIn_r _ [24, 25, 26, 27, 28, 12, 29, 15, 40, 41, 42, 43] (by decide +kernel) (by decide +kernel)
set_option maxRecDepth 20000 in
theorem gX7_item_X4_put : GoodIn wsX7_item (wsV RX7 265 RX4 yX4_put wsX4_put) := goodIn_app (goodIn_of _ (by decide +kernel)) ggX7_item_X4_put
theorem dX7_item_0 : decode cX7_item 0 = .ok (.iload_n 1, 1) := by decide +kernel
theorem dX7_item_1 : decode cX7_item 1 = .ok (.invokestatic 245, 3) := by decide +kernel
theorem dX7_item_4 : decode cX7_item 4 = .ok (.ifCond .ne 10, 3) := by decide +kernel
theorem dX7_item_7 : decode cX7_item 7 = .ok (.iload_n 2, 1) := by decide +kernel
theorem dX7_item_8 : decode cX7_item 8 = .ok (.invokestatic 248, 3) := by decide +kernel
theorem dX7_item_11 : decode cX7_item 11 = .ok (.ifCond .eq 5, 3) := by decide +kernel
theorem dX7_item_14 : decode cX7_item 14 = .ok (.iconst (-1), 1) := by decide +kernel
theorem dX7_item_15 : decode cX7_item 15 = .ok (.ireturn, 1) := by decide +kernel
theorem dX7_item_16 : decode cX7_item 16 = .ok (.aload_n 0, 1) := by decide +kernel
theorem dX7_item_17 : decode cX7_item 17 = .ok (.getfield 38, 3) := by decide +kernel
theorem dX7_item_20 : decode cX7_item 20 = .ok (.iload_n 1, 1) := by decide +kernel
theorem dX7_item_21 : decode cX7_item 21 = .ok (.aaload, 1) := by decide +kernel
theorem dX7_item_22 : decode cX7_item 22 = .ok (.astore 6, 2) := by decide +kernel
theorem dX7_item_24 : decode cX7_item 24 = .ok (.aload 6, 2) := by decide +kernel
theorem dX7_item_26 : decode cX7_item 26 = .ok (.iload_n 2, 1) := by decide +kernel
theorem dX7_item_27 : decode cX7_item 27 = .ok (.iload_n 3, 1) := by decide +kernel
theorem dX7_item_28 : decode cX7_item 28 = .ok (.iconst 1, 1) := by decide +kernel
theorem dX7_item_29 : decode cX7_item 29 = .ok (.invokevirtual 251, 3) := by decide +kernel
theorem dX7_item_32 : decode cX7_item 32 = .ok (.istore 7, 2) := by decide +kernel
theorem dX7_item_34 : decode cX7_item 34 = .ok (.iload 7, 2) := by decide +kernel
theorem dX7_item_36 : decode cX7_item 36 = .ok (.ifCond .eq 6, 3) := by decide +kernel
theorem dX7_item_39 : decode cX7_item 39 = .ok (.iload 7, 2) := by decide +kernel
theorem dX7_item_41 : decode cX7_item 41 = .ok (.ireturn, 1) := by decide +kernel
theorem dX7_item_42 : decode cX7_item 42 = .ok (.aload 6, 2) := by decide +kernel
theorem dX7_item_44 : decode cX7_item 44 = .ok (.iload_n 3, 1) := by decide +kernel
theorem dX7_item_45 : decode cX7_item 45 = .ok (.lload 4, 2) := by decide +kernel
theorem dX7_item_47 : decode cX7_item 47 = .ok (.invokevirtual 265, 3) := by decide +kernel
theorem dX7_item_50 : decode cX7_item 50 = .ok (.iconst 1, 1) := by decide +kernel
theorem dX7_item_51 : decode cX7_item 51 = .ok (.ireturn, 1) := by decide +kernel
set_option maxRecDepth 20000 in
theorem ggX7_copy_X7_isNoSheet : GoodIn wsX7_copy wsX7_isNoSheet := goodIn_r _ [12] (by decide +kernel) (by decide +kernel)
set_option maxRecDepth 20000 in
theorem gX7_copy_X7_isNoSheet : GoodIn wsX7_copy (va_wsS RX7 245 yX7_isNoSheet wsX7_isNoSheet) := goodIn_app (goodIn_of _ (by decide +kernel)) ggX7_copy_X7_isNoSheet
set_option maxRecDepth 20000 in
theorem ggX7_copy_X4_holds : GoodIn wsX7_copy wsX4_holds := goodIn_r _ [17, 18, 29, 30, 31, 32] (by decide +kernel) (by decide +kernel)
set_option maxRecDepth 20000 in
theorem gX7_copy_X4_holds : GoodIn wsX7_copy (wsV RX7 280 RX4 yX4_holds wsX4_holds) := goodIn_app (goodIn_of _ (by decide +kernel)) ggX7_copy_X4_holds
theorem dX7_copy_0 : decode cX7_copy 0 = .ok (.iload_n 1, 1) := by decide +kernel
theorem dX7_copy_1 : decode cX7_copy 1 = .ok (.invokestatic 245, 3) := by decide +kernel
theorem dX7_copy_4 : decode cX7_copy 4 = .ok (.ifCond .ne 10, 3) := by decide +kernel
theorem dX7_copy_7 : decode cX7_copy 7 = .ok (.iload_n 3, 1) := by decide +kernel
theorem dX7_copy_8 : decode cX7_copy 8 = .ok (.invokestatic 245, 3) := by decide +kernel
theorem dX7_copy_11 : decode cX7_copy 11 = .ok (.ifCond .eq 5, 3) := by decide +kernel
theorem dX7_copy_14 : decode cX7_copy 14 = .ok (.iconst (-1), 1) := by decide +kernel
theorem dX7_copy_15 : decode cX7_copy 15 = .ok (.ireturn, 1) := by decide +kernel
theorem dX7_copy_16 : decode cX7_copy 16 = .ok (.aload_n 0, 1) := by decide +kernel
theorem dX7_copy_17 : decode cX7_copy 17 = .ok (.getfield 38, 3) := by decide +kernel
theorem dX7_copy_20 : decode cX7_copy 20 = .ok (.iload_n 1, 1) := by decide +kernel
theorem dX7_copy_21 : decode cX7_copy 21 = .ok (.aaload, 1) := by decide +kernel
theorem dX7_copy_22 : decode cX7_copy 22 = .ok (.astore 6, 2) := by decide +kernel
theorem dX7_copy_24 : decode cX7_copy 24 = .ok (.aload_n 0, 1) := by decide +kernel
theorem dX7_copy_25 : decode cX7_copy 25 = .ok (.getfield 38, 3) := by decide +kernel
theorem dX7_copy_28 : decode cX7_copy 28 = .ok (.iload_n 3, 1) := by decide +kernel
theorem dX7_copy_29 : decode cX7_copy 29 = .ok (.aaload, 1) := by decide +kernel
theorem dX7_copy_30 : decode cX7_copy 30 = .ok (.astore 7, 2) := by decide +kernel
theorem dX7_copy_32 : decode cX7_copy 32 = .ok (.aload 6, 2) := by decide +kernel
theorem dX7_copy_34 : decode cX7_copy 34 = .ok (.getfield 271, 3) := by decide +kernel
theorem dX7_copy_37 : decode cX7_copy 37 = .ok (.ifCond .eq 11, 3) := by decide +kernel
theorem dX7_copy_40 : decode cX7_copy 40 = .ok (.aload 7, 2) := by decide +kernel
theorem dX7_copy_42 : decode cX7_copy 42 = .ok (.getfield 271, 3) := by decide +kernel
theorem dX7_copy_45 : decode cX7_copy 45 = .ok (.ifCond .ne 6, 3) := by decide +kernel
theorem dX7_copy_48 : decode cX7_copy 48 = .ok (.bipush (-11), 2) := by decide +kernel
theorem dX7_copy_50 : decode cX7_copy 50 = .ok (.ireturn, 1) := by decide +kernel
theorem dX7_copy_51 : decode cX7_copy 51 = .ok (.aload 6, 2) := by decide +kernel
theorem dX7_copy_53 : decode cX7_copy 53 = .ok (.getfield 277, 3) := by decide +kernel
theorem dX7_copy_56 : decode cX7_copy 56 = .ok (.aload 7, 2) := by decide +kernel
theorem dX7_copy_58 : decode cX7_copy 58 = .ok (.getfield 277, 3) := by decide +kernel
theorem dX7_copy_61 : decode cX7_copy 61 = .ok (.if_icmp .eq 6, 3) := by decide +kernel
theorem dX7_copy_64 : decode cX7_copy 64 = .ok (.bipush (-12), 2) := by decide +kernel
theorem dX7_copy_66 : decode cX7_copy 66 = .ok (.ireturn, 1) := by decide +kernel
theorem dX7_copy_67 : decode cX7_copy 67 = .ok (.aload 6, 2) := by decide +kernel
theorem dX7_copy_69 : decode cX7_copy 69 = .ok (.iload_n 2, 1) := by decide +kernel
theorem dX7_copy_70 : decode cX7_copy 70 = .ok (.iload 5, 2) := by decide +kernel
theorem dX7_copy_72 : decode cX7_copy 72 = .ok (.invokevirtual 280, 3) := by decide +kernel
theorem dX7_copy_75 : decode cX7_copy 75 = .ok (.ifCond .eq 15, 3) := by decide +kernel
theorem dX7_copy_78 : decode cX7_copy 78 = .ok (.aload 7, 2) := by decide +kernel
theorem dX7_copy_80 : decode cX7_copy 80 = .ok (.iload 4, 2) := by decide +kernel
theorem dX7_copy_82 : decode cX7_copy 82 = .ok (.iload 5, 2) := by decide +kernel
theorem dX7_copy_84 : decode cX7_copy 84 = .ok (.invokevirtual 280, 3) := by decide +kernel
theorem dX7_copy_87 : decode cX7_copy 87 = .ok (.ifCond .ne 6, 3) := by decide +kernel
theorem dX7_copy_90 : decode cX7_copy 90 = .ok (.bipush (-13), 2) := by decide +kernel
theorem dX7_copy_92 : decode cX7_copy 92 = .ok (.ireturn, 1) := by decide +kernel
theorem dX7_copy_93 : decode cX7_copy 93 = .ok (.aload 6, 2) := by decide +kernel
theorem dX7_copy_95 : decode cX7_copy 95 = .ok (.getfield 283, 3) := by decide +kernel
theorem dX7_copy_98 : decode cX7_copy 98 = .ok (.iload_n 2, 1) := by decide +kernel
theorem dX7_copy_99 : decode cX7_copy 99 = .ok (.aload 7, 2) := by decide +kernel
theorem dX7_copy_101 : decode cX7_copy 101 = .ok (.getfield 283, 3) := by decide +kernel
theorem dX7_copy_104 : decode cX7_copy 104 = .ok (.iload 4, 2) := by decide +kernel
theorem dX7_copy_106 : decode cX7_copy 106 = .ok (.iload 5, 2) := by decide +kernel
theorem dX7_copy_108 : decode cX7_copy 108 = .ok (.invokestatic 287, 3) := by decide +kernel
theorem dX7_copy_111 : decode cX7_copy 111 = .ok (.iload 5, 2) := by decide +kernel
theorem dX7_copy_113 : decode cX7_copy 113 = .ok (.ireturn, 1) := by decide +kernel
theorem dX7_isNoSide_0 : decode cX7_isNoSide 0 = .ok (.iload_n 0, 1) := by decide +kernel
theorem dX7_isNoSide_1 : decode cX7_isNoSide 1 = .ok (.ifCond .eq 12, 3) := by decide +kernel
theorem dX7_isNoSide_4 : decode cX7_isNoSide 4 = .ok (.iload_n 0, 1) := by decide +kernel
theorem dX7_isNoSide_5 : decode cX7_isNoSide 5 = .ok (.iconst 1, 1) := by decide +kernel
theorem dX7_isNoSide_6 : decode cX7_isNoSide 6 = .ok (.if_icmp .eq 7, 3) := by decide +kernel
theorem dX7_isNoSide_9 : decode cX7_isNoSide 9 = .ok (.iconst 1, 1) := by decide +kernel
theorem dX7_isNoSide_10 : decode cX7_isNoSide 10 = .ok (.goto 4, 3) := by decide +kernel
theorem dX7_isNoSide_13 : decode cX7_isNoSide 13 = .ok (.iconst 0, 1) := by decide +kernel
theorem dX7_isNoSide_14 : decode cX7_isNoSide 14 = .ok (.ireturn, 1) := by decide +kernel
theorem dX7_isNoSheet_0 : decode cX7_isNoSheet 0 = .ok (.iload_n 0, 1) := by decide +kernel
theorem dX7_isNoSheet_1 : decode cX7_isNoSheet 1 = .ok (.ifCond .lt 8, 3) := by decide +kernel
theorem dX7_isNoSheet_4 : decode cX7_isNoSheet 4 = .ok (.iload_n 0, 1) := by decide +kernel
theorem dX7_isNoSheet_5 : decode cX7_isNoSheet 5 = .ok (.iconst 4, 1) := by decide +kernel
theorem dX7_isNoSheet_6 : decode cX7_isNoSheet 6 = .ok (.if_icmp .lt 7, 3) := by decide +kernel
theorem dX7_isNoSheet_9 : decode cX7_isNoSheet 9 = .ok (.iconst 1, 1) := by decide +kernel
theorem dX7_isNoSheet_10 : decode cX7_isNoSheet 10 = .ok (.goto 4, 3) := by decide +kernel
theorem dX7_isNoSheet_13 : decode cX7_isNoSheet 13 = .ok (.iconst 0, 1) := by decide +kernel
theorem dX7_isNoSheet_14 : decode cX7_isNoSheet 14 = .ok (.ireturn, 1) := by decide +kernel
theorem dX7_isNoLane_0 : decode cX7_isNoLane 0 = .ok (.iload_n 0, 1) := by decide +kernel
theorem dX7_isNoLane_1 : decode cX7_isNoLane 1 = .ok (.ifCond .lt 8, 3) := by decide +kernel
theorem dX7_isNoLane_4 : decode cX7_isNoLane 4 = .ok (.iload_n 0, 1) := by decide +kernel
theorem dX7_isNoLane_5 : decode cX7_isNoLane 5 = .ok (.iconst 4, 1) := by decide +kernel
theorem dX7_isNoLane_6 : decode cX7_isNoLane 6 = .ok (.if_icmp .lt 7, 3) := by decide +kernel
theorem dX7_isNoLane_9 : decode cX7_isNoLane 9 = .ok (.iconst 1, 1) := by decide +kernel
theorem dX7_isNoLane_10 : decode cX7_isNoLane 10 = .ok (.goto 4, 3) := by decide +kernel
theorem dX7_isNoLane_13 : decode cX7_isNoLane 13 = .ok (.iconst 0, 1) := by decide +kernel
theorem dX7_isNoLane_14 : decode cX7_isNoLane 14 = .ok (.ireturn, 1) := by decide +kernel
theorem dX7_leastTold_0 : decode cX7_leastTold 0 = .ok (.iload_n 0, 1) := by decide +kernel
theorem dX7_leastTold_1 : decode cX7_leastTold 1 = .ok (.iconst 1, 1) := by decide +kernel
theorem dX7_leastTold_2 : decode cX7_leastTold 2 = .ok (.if_icmp .ne 7, 3) := by decide +kernel
theorem dX7_leastTold_5 : decode cX7_leastTold 5 = .ok (.iconst 0, 1) := by decide +kernel
theorem dX7_leastTold_6 : decode cX7_leastTold 6 = .ok (.goto 4, 3) := by decide +kernel
theorem dX7_leastTold_9 : decode cX7_leastTold 9 = .ok (.iconst 1, 1) := by decide +kernel
theorem dX7_leastTold_10 : decode cX7_leastTold 10 = .ok (.ireturn, 1) := by decide +kernel
theorem dX7_mostTold_0 : decode cX7_mostTold 0 = .ok (.iload_n 0, 1) := by decide +kernel
theorem dX7_mostTold_1 : decode cX7_mostTold 1 = .ok (.iconst 2, 1) := by decide +kernel
theorem dX7_mostTold_2 : decode cX7_mostTold 2 = .ok (.if_icmp .ne 8, 3) := by decide +kernel
theorem dX7_mostTold_5 : decode cX7_mostTold 5 = .ok (.bipush 8, 2) := by decide +kernel
theorem dX7_mostTold_7 : decode cX7_mostTold 7 = .ok (.goto 5, 3) := by decide +kernel
theorem dX7_mostTold_10 : decode cX7_mostTold 10 = .ok (.bipush 99, 2) := by decide +kernel
theorem dX7_mostTold_12 : decode cX7_mostTold 12 = .ok (.ireturn, 1) := by decide +kernel
set_option maxRecDepth 20000 in
theorem ggX7_lowest_X7_commonDivisor : GoodIn wsX7_lowest wsX7_commonDivisor := goodIn_r _ [4] (by decide +kernel) (by decide +kernel)
set_option maxRecDepth 20000 in
theorem gX7_lowest_X7_commonDivisor : GoodIn wsX7_lowest (va_wsS RX7 293 yX7_commonDivisor wsX7_commonDivisor) := goodIn_app (goodIn_of _ (by decide +kernel)) ggX7_lowest_X7_commonDivisor
theorem dX7_lowest_0 : decode cX7_lowest 0 = .ok (.lload_n 0, 1) := by decide +kernel
theorem dX7_lowest_1 : decode cX7_lowest 1 = .ok (.lload_n 2, 1) := by decide +kernel
theorem dX7_lowest_2 : decode cX7_lowest 2 = .ok (.invokestatic 293, 3) := by decide +kernel
theorem dX7_lowest_5 : decode cX7_lowest 5 = .ok (.lstore 5, 2) := by decide +kernel
theorem dX7_lowest_7 : decode cX7_lowest 7 = .ok (.iload 4, 2) := by decide +kernel
theorem dX7_lowest_9 : decode cX7_lowest 9 = .ok (.ifCond .ne 7, 3) := by decide +kernel
theorem dX7_lowest_12 : decode cX7_lowest 12 = .ok (.lload_n 0, 1) := by decide +kernel
theorem dX7_lowest_13 : decode cX7_lowest 13 = .ok (.goto 4, 3) := by decide +kernel
theorem dX7_lowest_16 : decode cX7_lowest 16 = .ok (.lload_n 2, 1) := by decide +kernel
theorem dX7_lowest_17 : decode cX7_lowest 17 = .ok (.lstore 7, 2) := by decide +kernel
theorem dX7_lowest_19 : decode cX7_lowest 19 = .ok (.lload 5, 2) := by decide +kernel
theorem dX7_lowest_21 : decode cX7_lowest 21 = .ok (.lconst 1, 1) := by decide +kernel
theorem dX7_lowest_22 : decode cX7_lowest 22 = .ok (.lcmp, 1) := by decide +kernel
theorem dX7_lowest_23 : decode cX7_lowest 23 = .ok (.ifCond .le 11, 3) := by decide +kernel
theorem dX7_lowest_26 : decode cX7_lowest 26 = .ok (.lload 7, 2) := by decide +kernel
theorem dX7_lowest_28 : decode cX7_lowest 28 = .ok (.lload 5, 2) := by decide +kernel
theorem dX7_lowest_30 : decode cX7_lowest 30 = .ok (.ldiv, 1) := by decide +kernel
theorem dX7_lowest_31 : decode cX7_lowest 31 = .ok (.goto 5, 3) := by decide +kernel
theorem dX7_lowest_34 : decode cX7_lowest 34 = .ok (.lload 7, 2) := by decide +kernel
theorem dX7_lowest_36 : decode cX7_lowest 36 = .ok (.lreturn, 1) := by decide +kernel
theorem dX7_commonDivisor_0 : decode cX7_commonDivisor 0 = .ok (.lload_n 0, 1) := by decide +kernel
theorem dX7_commonDivisor_1 : decode cX7_commonDivisor 1 = .ok (.lstore 4, 2) := by decide +kernel
theorem dX7_commonDivisor_3 : decode cX7_commonDivisor 3 = .ok (.lload_n 2, 1) := by decide +kernel
theorem dX7_commonDivisor_4 : decode cX7_commonDivisor 4 = .ok (.lstore 6, 2) := by decide +kernel
theorem dX7_commonDivisor_6 : decode cX7_commonDivisor 6 = .ok (.iconst 0, 1) := by decide +kernel
theorem dX7_commonDivisor_7 : decode cX7_commonDivisor 7 = .ok (.istore 8, 2) := by decide +kernel
theorem dX7_commonDivisor_9 : decode cX7_commonDivisor 9 = .ok (.iload 8, 2) := by decide +kernel
theorem dX7_commonDivisor_11 : decode cX7_commonDivisor 11 = .ok (.bipush 100, 2) := by decide +kernel
theorem dX7_commonDivisor_13 : decode cX7_commonDivisor 13 = .ok (.if_icmp .ge 31, 3) := by decide +kernel
theorem dX7_commonDivisor_16 : decode cX7_commonDivisor 16 = .ok (.lload 6, 2) := by decide +kernel
theorem dX7_commonDivisor_18 : decode cX7_commonDivisor 18 = .ok (.lconst 0, 1) := by decide +kernel
theorem dX7_commonDivisor_19 : decode cX7_commonDivisor 19 = .ok (.lcmp, 1) := by decide +kernel
theorem dX7_commonDivisor_20 : decode cX7_commonDivisor 20 = .ok (.ifCond .eq 24, 3) := by decide +kernel
theorem dX7_commonDivisor_23 : decode cX7_commonDivisor 23 = .ok (.lload 4, 2) := by decide +kernel
theorem dX7_commonDivisor_25 : decode cX7_commonDivisor 25 = .ok (.lload 6, 2) := by decide +kernel
theorem dX7_commonDivisor_27 : decode cX7_commonDivisor 27 = .ok (.lrem, 1) := by decide +kernel
theorem dX7_commonDivisor_28 : decode cX7_commonDivisor 28 = .ok (.lstore 9, 2) := by decide +kernel
theorem dX7_commonDivisor_30 : decode cX7_commonDivisor 30 = .ok (.lload 6, 2) := by decide +kernel
theorem dX7_commonDivisor_32 : decode cX7_commonDivisor 32 = .ok (.lstore 4, 2) := by decide +kernel
theorem dX7_commonDivisor_34 : decode cX7_commonDivisor 34 = .ok (.lload 9, 2) := by decide +kernel
theorem dX7_commonDivisor_36 : decode cX7_commonDivisor 36 = .ok (.lstore 6, 2) := by decide +kernel
theorem dX7_commonDivisor_38 : decode cX7_commonDivisor 38 = .ok (.iinc 8 1, 3) := by decide +kernel
theorem dX7_commonDivisor_41 : decode cX7_commonDivisor 41 = .ok (.goto (-32), 3) := by decide +kernel
theorem dX7_commonDivisor_44 : decode cX7_commonDivisor 44 = .ok (.lload 4, 2) := by decide +kernel
theorem dX7_commonDivisor_46 : decode cX7_commonDivisor 46 = .ok (.lreturn, 1) := by decide +kernel
theorem dX7_power_0 : decode cX7_power 0 = .ok (.lconst 1, 1) := by decide +kernel
theorem dX7_power_1 : decode cX7_power 1 = .ok (.lstore_n 3, 1) := by decide +kernel
theorem dX7_power_2 : decode cX7_power 2 = .ok (.iconst 0, 1) := by decide +kernel
theorem dX7_power_3 : decode cX7_power 3 = .ok (.istore 5, 2) := by decide +kernel
theorem dX7_power_5 : decode cX7_power 5 = .ok (.iload 5, 2) := by decide +kernel
theorem dX7_power_7 : decode cX7_power 7 = .ok (.iload_n 2, 1) := by decide +kernel
theorem dX7_power_8 : decode cX7_power 8 = .ok (.if_icmp .ge 13, 3) := by decide +kernel
theorem dX7_power_11 : decode cX7_power 11 = .ok (.lload_n 3, 1) := by decide +kernel
theorem dX7_power_12 : decode cX7_power 12 = .ok (.lload_n 0, 1) := by decide +kernel
theorem dX7_power_13 : decode cX7_power 13 = .ok (.lmul, 1) := by decide +kernel
theorem dX7_power_14 : decode cX7_power 14 = .ok (.lstore_n 3, 1) := by decide +kernel
theorem dX7_power_15 : decode cX7_power 15 = .ok (.iinc 5 1, 3) := by decide +kernel
theorem dX7_power_18 : decode cX7_power 18 = .ok (.goto (-13), 3) := by decide +kernel
theorem dX7_power_21 : decode cX7_power 21 = .ok (.lload_n 3, 1) := by decide +kernel
theorem dX7_power_22 : decode cX7_power 22 = .ok (.lreturn, 1) := by decide +kernel
set_option maxRecDepth 20000 in
theorem ggX7_pairCost_X5_all : GoodIn wsX7_pairCost wsX5_all := goodIn_r _ [8, 9, 10, 11, 7, 12, 13, 14, 15, 16, 17, 18, 41, 42] (by decide +kernel) (by decide +kernel)
set_option maxRecDepth 20000 in
theorem gX7_pairCost_X5_all : GoodIn wsX7_pairCost (wsV RX7 75 RX5 yX5_all wsX5_all) := goodIn_app (goodIn_of _ (by decide +kernel)) ggX7_pairCost_X5_all
set_option maxRecDepth 20000 in
theorem ggX7_pairCost_X5_weightOf : GoodIn wsX7_pairCost wsX5_weightOf := goodIn_r _ [17, 13, 18, 41, 42] (by decide +kernel) (by decide +kernel)
set_option maxRecDepth 20000 in
theorem gX7_pairCost_X5_weightOf : GoodIn wsX7_pairCost (wsV RX7 71 RX5 yX5_weightOf wsX5_weightOf) := goodIn_app (goodIn_of _ (by decide +kernel)) ggX7_pairCost_X5_weightOf
set_option maxRecDepth 20000 in
theorem ggX7_pairCost_X7_pairCost : GoodIn wsX7_pairCost wsX7_pairCost := goodIn_r _ [0, 1, 2, 3, 4, 5, 6, 7, 8, 9, 10, 11, 12, 13, 14, 15, 16, 17, 18, 19, 20, 21, 22, 23, 24, 25, 26, 27, 28, 29, 30, 31, 32, 33, 34, 35, 36, 37, 38, 39, 40, 41, 42] (by decide +kernel) (by decide +kernel)
set_option maxRecDepth 20000 in
theorem gX7_pairCost_X7_pairCost : GoodIn wsX7_pairCost (va_wsS RX7 192 yX7_pairCost wsX7_pairCost) := goodIn_app (goodIn_of _ (by decide +kernel)) ggX7_pairCost_X7_pairCost
set_option maxRecDepth 20000 in
theorem ggX7_pairCost_X7_power : GoodIn wsX7_pairCost wsX7_power := goodIn_r _ [25] (by decide +kernel) (by decide +kernel)
set_option maxRecDepth 20000 in
theorem gX7_pairCost_X7_power : GoodIn wsX7_pairCost (va_wsS RX7 196 yX7_power wsX7_power) := goodIn_app (goodIn_of _ (by decide +kernel)) ggX7_pairCost_X7_power
set_option maxRecDepth 20000 in
theorem ggX7_pairCost_X7_otherLasts : GoodIn wsX7_pairCost wsX7_otherLasts := goodIn_r _ [28, 1, 3, 29, 4, 5, 6, 7, 8, 9, 10, 11, 12, 13, 14, 15, 16, 17, 18, 30, 23, 24, 22, 25, 20, 21, 0, 2, 19, 26, 27, 31, 32, 33, 34, 35, 36, 37, 38, 39, 40, 41, 42] (by decide +kernel) (by decide +kernel)
set_option maxRecDepth 20000 in
theorem gX7_pairCost_X7_otherLasts : GoodIn wsX7_pairCost (va_wsS RX7 297 yX7_otherLasts wsX7_otherLasts) := goodIn_app (goodIn_of _ (by decide +kernel)) ggX7_pairCost_X7_otherLasts
theorem dX7_pairCost_0 : decode cX7_pairCost 0 = .ok (.aload_n 0, 1) := by decide +kernel
theorem dX7_pairCost_1 : decode cX7_pairCost 1 = .ok (.getfield 64, 3) := by decide +kernel
theorem dX7_pairCost_4 : decode cX7_pairCost 4 = .ok (.astore 5, 2) := by decide +kernel
theorem dX7_pairCost_6 : decode cX7_pairCost 6 = .ok (.iload_n 2, 1) := by decide +kernel
theorem dX7_pairCost_7 : decode cX7_pairCost 7 = .ok (.ifCond .le 27, 3) := by decide +kernel
theorem dX7_pairCost_10 : decode cX7_pairCost 10 = .ok (.iload_n 2, 1) := by decide +kernel
theorem dX7_pairCost_11 : decode cX7_pairCost 11 = .ok (.iconst 3, 1) := by decide +kernel
theorem dX7_pairCost_12 : decode cX7_pairCost 12 = .ok (.if_icmp .gt 22, 3) := by decide +kernel
theorem dX7_pairCost_15 : decode cX7_pairCost 15 = .ok (.iload_n 3, 1) := by decide +kernel
theorem dX7_pairCost_16 : decode cX7_pairCost 16 = .ok (.aload 5, 2) := by decide +kernel
theorem dX7_pairCost_18 : decode cX7_pairCost 18 = .ok (.getfield 67, 3) := by decide +kernel
theorem dX7_pairCost_21 : decode cX7_pairCost 21 = .ok (.if_icmp .ge 13, 3) := by decide +kernel
theorem dX7_pairCost_24 : decode cX7_pairCost 24 = .ok (.iload 4, 2) := by decide +kernel
theorem dX7_pairCost_26 : decode cX7_pairCost 26 = .ok (.aload 5, 2) := by decide +kernel
theorem dX7_pairCost_28 : decode cX7_pairCost 28 = .ok (.getfield 67, 3) := by decide +kernel
theorem dX7_pairCost_31 : decode cX7_pairCost 31 = .ok (.if_icmp .lt 5, 3) := by decide +kernel
theorem dX7_pairCost_34 : decode cX7_pairCost 34 = .ok (.lconst 0, 1) := by decide +kernel
theorem dX7_pairCost_35 : decode cX7_pairCost 35 = .ok (.lreturn, 1) := by decide +kernel
theorem dX7_pairCost_36 : decode cX7_pairCost 36 = .ok (.aload 5, 2) := by decide +kernel
theorem dX7_pairCost_38 : decode cX7_pairCost 38 = .ok (.invokevirtual 75, 3) := by decide +kernel
theorem dX7_pairCost_41 : decode cX7_pairCost 41 = .ok (.i2l, 1) := by decide +kernel
theorem dX7_pairCost_42 : decode cX7_pairCost 42 = .ok (.lstore 6, 2) := by decide +kernel
theorem dX7_pairCost_44 : decode cX7_pairCost 44 = .ok (.aload 5, 2) := by decide +kernel
theorem dX7_pairCost_46 : decode cX7_pairCost 46 = .ok (.iload_n 3, 1) := by decide +kernel
theorem dX7_pairCost_47 : decode cX7_pairCost 47 = .ok (.iconst 1, 1) := by decide +kernel
theorem dX7_pairCost_48 : decode cX7_pairCost 48 = .ok (.iadd, 1) := by decide +kernel
theorem dX7_pairCost_49 : decode cX7_pairCost 49 = .ok (.invokevirtual 71, 3) := by decide +kernel
theorem dX7_pairCost_52 : decode cX7_pairCost 52 = .ok (.i2l, 1) := by decide +kernel
theorem dX7_pairCost_53 : decode cX7_pairCost 53 = .ok (.lstore 8, 2) := by decide +kernel
theorem dX7_pairCost_55 : decode cX7_pairCost 55 = .ok (.aload 5, 2) := by decide +kernel
theorem dX7_pairCost_57 : decode cX7_pairCost 57 = .ok (.iload 4, 2) := by decide +kernel
theorem dX7_pairCost_59 : decode cX7_pairCost 59 = .ok (.iconst 1, 1) := by decide +kernel
theorem dX7_pairCost_60 : decode cX7_pairCost 60 = .ok (.iadd, 1) := by decide +kernel
theorem dX7_pairCost_61 : decode cX7_pairCost 61 = .ok (.invokevirtual 71, 3) := by decide +kernel
theorem dX7_pairCost_64 : decode cX7_pairCost 64 = .ok (.i2l, 1) := by decide +kernel
theorem dX7_pairCost_65 : decode cX7_pairCost 65 = .ok (.lstore 10, 2) := by decide +kernel
theorem dX7_pairCost_67 : decode cX7_pairCost 67 = .ok (.aload_n 0, 1) := by decide +kernel
theorem dX7_pairCost_68 : decode cX7_pairCost 68 = .ok (.iload_n 1, 1) := by decide +kernel
theorem dX7_pairCost_69 : decode cX7_pairCost 69 = .ok (.iload_n 2, 1) := by decide +kernel
theorem dX7_pairCost_70 : decode cX7_pairCost 70 = .ok (.iconst 1, 1) := by decide +kernel
theorem dX7_pairCost_71 : decode cX7_pairCost 71 = .ok (.isub, 1) := by decide +kernel
theorem dX7_pairCost_72 : decode cX7_pairCost 72 = .ok (.iconst 0, 1) := by decide +kernel
theorem dX7_pairCost_73 : decode cX7_pairCost 73 = .ok (.iconst 0, 1) := by decide +kernel
theorem dX7_pairCost_74 : decode cX7_pairCost 74 = .ok (.invokestatic 192, 3) := by decide +kernel
theorem dX7_pairCost_77 : decode cX7_pairCost 77 = .ok (.lstore 12, 2) := by decide +kernel
theorem dX7_pairCost_79 : decode cX7_pairCost 79 = .ok (.iconst 2, 1) := by decide +kernel
theorem dX7_pairCost_80 : decode cX7_pairCost 80 = .ok (.aload_n 0, 1) := by decide +kernel
theorem dX7_pairCost_81 : decode cX7_pairCost 81 = .ok (.getfield 117, 3) := by decide +kernel
theorem dX7_pairCost_84 : decode cX7_pairCost 84 = .ok (.imul, 1) := by decide +kernel
theorem dX7_pairCost_85 : decode cX7_pairCost 85 = .ok (.i2l, 1) := by decide +kernel
theorem dX7_pairCost_86 : decode cX7_pairCost 86 = .ok (.lload 6, 2) := by decide +kernel
theorem dX7_pairCost_88 : decode cX7_pairCost 88 = .ok (.iconst 2, 1) := by decide +kernel
theorem dX7_pairCost_89 : decode cX7_pairCost 89 = .ok (.iload_n 2, 1) := by decide +kernel
theorem dX7_pairCost_90 : decode cX7_pairCost 90 = .ok (.imul, 1) := by decide +kernel
theorem dX7_pairCost_91 : decode cX7_pairCost 91 = .ok (.invokestatic 196, 3) := by decide +kernel
theorem dX7_pairCost_94 : decode cX7_pairCost 94 = .ok (.lmul, 1) := by decide +kernel
theorem dX7_pairCost_95 : decode cX7_pairCost 95 = .ok (.lload 12, 2) := by decide +kernel
theorem dX7_pairCost_97 : decode cX7_pairCost 97 = .ok (.ladd, 1) := by decide +kernel
theorem dX7_pairCost_98 : decode cX7_pairCost 98 = .ok (.lstore 14, 2) := by decide +kernel
theorem dX7_pairCost_100 : decode cX7_pairCost 100 = .ok (.lload 8, 2) := by decide +kernel
theorem dX7_pairCost_102 : decode cX7_pairCost 102 = .ok (.lload 10, 2) := by decide +kernel
theorem dX7_pairCost_104 : decode cX7_pairCost 104 = .ok (.lmul, 1) := by decide +kernel
theorem dX7_pairCost_105 : decode cX7_pairCost 105 = .ok (.lload 14, 2) := by decide +kernel
theorem dX7_pairCost_107 : decode cX7_pairCost 107 = .ok (.lmul, 1) := by decide +kernel
theorem dX7_pairCost_108 : decode cX7_pairCost 108 = .ok (.lload 8, 2) := by decide +kernel
theorem dX7_pairCost_110 : decode cX7_pairCost 110 = .ok (.aload_n 0, 1) := by decide +kernel
theorem dX7_pairCost_111 : decode cX7_pairCost 111 = .ok (.iload_n 1, 1) := by decide +kernel
theorem dX7_pairCost_112 : decode cX7_pairCost 112 = .ok (.iload_n 2, 1) := by decide +kernel
theorem dX7_pairCost_113 : decode cX7_pairCost 113 = .ok (.iload 4, 2) := by decide +kernel
theorem dX7_pairCost_115 : decode cX7_pairCost 115 = .ok (.lload 12, 2) := by decide +kernel
theorem dX7_pairCost_117 : decode cX7_pairCost 117 = .ok (.invokestatic 297, 3) := by decide +kernel
theorem dX7_pairCost_120 : decode cX7_pairCost 120 = .ok (.lmul, 1) := by decide +kernel
theorem dX7_pairCost_121 : decode cX7_pairCost 121 = .ok (.ladd, 1) := by decide +kernel
theorem dX7_pairCost_122 : decode cX7_pairCost 122 = .ok (.lload 10, 2) := by decide +kernel
theorem dX7_pairCost_124 : decode cX7_pairCost 124 = .ok (.aload_n 0, 1) := by decide +kernel
theorem dX7_pairCost_125 : decode cX7_pairCost 125 = .ok (.iload_n 1, 1) := by decide +kernel
theorem dX7_pairCost_126 : decode cX7_pairCost 126 = .ok (.iload_n 2, 1) := by decide +kernel
theorem dX7_pairCost_127 : decode cX7_pairCost 127 = .ok (.iload_n 3, 1) := by decide +kernel
theorem dX7_pairCost_128 : decode cX7_pairCost 128 = .ok (.lload 12, 2) := by decide +kernel
theorem dX7_pairCost_130 : decode cX7_pairCost 130 = .ok (.invokestatic 297, 3) := by decide +kernel
theorem dX7_pairCost_133 : decode cX7_pairCost 133 = .ok (.lmul, 1) := by decide +kernel
theorem dX7_pairCost_134 : decode cX7_pairCost 134 = .ok (.ladd, 1) := by decide +kernel
theorem dX7_pairCost_135 : decode cX7_pairCost 135 = .ok (.lload 6, 2) := by decide +kernel
theorem dX7_pairCost_137 : decode cX7_pairCost 137 = .ok (.lload 6, 2) := by decide +kernel
theorem dX7_pairCost_139 : decode cX7_pairCost 139 = .ok (.lmul, 1) := by decide +kernel
theorem dX7_pairCost_140 : decode cX7_pairCost 140 = .ok (.aload_n 0, 1) := by decide +kernel
theorem dX7_pairCost_141 : decode cX7_pairCost 141 = .ok (.iload_n 1, 1) := by decide +kernel
theorem dX7_pairCost_142 : decode cX7_pairCost 142 = .ok (.iload_n 2, 1) := by decide +kernel
theorem dX7_pairCost_143 : decode cX7_pairCost 143 = .ok (.iconst 1, 1) := by decide +kernel
theorem dX7_pairCost_144 : decode cX7_pairCost 144 = .ok (.isub, 1) := by decide +kernel
theorem dX7_pairCost_145 : decode cX7_pairCost 145 = .ok (.iload_n 3, 1) := by decide +kernel
theorem dX7_pairCost_146 : decode cX7_pairCost 146 = .ok (.iconst 1, 1) := by decide +kernel
theorem dX7_pairCost_147 : decode cX7_pairCost 147 = .ok (.iadd, 1) := by decide +kernel
theorem dX7_pairCost_148 : decode cX7_pairCost 148 = .ok (.iload 4, 2) := by decide +kernel
theorem dX7_pairCost_150 : decode cX7_pairCost 150 = .ok (.iconst 1, 1) := by decide +kernel
theorem dX7_pairCost_151 : decode cX7_pairCost 151 = .ok (.iadd, 1) := by decide +kernel
theorem dX7_pairCost_152 : decode cX7_pairCost 152 = .ok (.invokestatic 192, 3) := by decide +kernel
theorem dX7_pairCost_155 : decode cX7_pairCost 155 = .ok (.lmul, 1) := by decide +kernel
theorem dX7_pairCost_156 : decode cX7_pairCost 156 = .ok (.ladd, 1) := by decide +kernel
theorem dX7_pairCost_157 : decode cX7_pairCost 157 = .ok (.lreturn, 1) := by decide +kernel
set_option maxRecDepth 20000 in
theorem ggX7_otherLasts_X5_all : GoodIn wsX7_otherLasts wsX5_all := goodIn_r _ [8, 9, 10, 11, 7, 12, 13, 14, 15, 16, 17, 18, 41, 42] (by decide +kernel) (by decide +kernel)
set_option maxRecDepth 20000 in
theorem gX7_otherLasts_X5_all : GoodIn wsX7_otherLasts (wsV RX7 75 RX5 yX5_all wsX5_all) := goodIn_app (goodIn_of _ (by decide +kernel)) ggX7_otherLasts_X5_all
set_option maxRecDepth 20000 in
theorem ggX7_otherLasts_X5_left : GoodIn wsX7_otherLasts wsX5_left := goodIn_r _ [12, 13, 14, 15, 16, 7, 17, 18, 41, 42] (by decide +kernel) (by decide +kernel)
set_option maxRecDepth 20000 in
theorem gX7_otherLasts_X5_left : GoodIn wsX7_otherLasts (wsV RX7 110 RX5 yX5_left wsX5_left) := goodIn_app (goodIn_of _ (by decide +kernel)) ggX7_otherLasts_X5_left
set_option maxRecDepth 20000 in
theorem ggX7_otherLasts_X7_power : GoodIn wsX7_otherLasts wsX7_power := goodIn_r _ [23] (by decide +kernel) (by decide +kernel)
set_option maxRecDepth 20000 in
theorem gX7_otherLasts_X7_power : GoodIn wsX7_otherLasts (va_wsS RX7 196 yX7_power wsX7_power) := goodIn_app (goodIn_of _ (by decide +kernel)) ggX7_otherLasts_X7_power
set_option maxRecDepth 20000 in
theorem ggX7_otherLasts_X7_pairCost : GoodIn wsX7_otherLasts wsX7_pairCost := goodIn_r _ [26, 1, 27, 2, 4, 5, 6, 7, 8, 9, 10, 11, 12, 13, 14, 15, 16, 17, 18, 28, 24, 25, 22, 20, 21, 23, 29, 30, 0, 3, 19, 31, 32, 33, 34, 35, 36, 37, 38, 39, 40, 41, 42] (by decide +kernel) (by decide +kernel)
set_option maxRecDepth 20000 in
theorem gX7_otherLasts_X7_pairCost : GoodIn wsX7_otherLasts (va_wsS RX7 192 yX7_pairCost wsX7_pairCost) := goodIn_app (goodIn_of _ (by decide +kernel)) ggX7_otherLasts_X7_pairCost
theorem dX7_otherLasts_0 : decode cX7_otherLasts 0 = .ok (.aload_n 0, 1) := by decide +kernel
theorem dX7_otherLasts_1 : decode cX7_otherLasts 1 = .ok (.getfield 64, 3) := by decide +kernel
theorem dX7_otherLasts_4 : decode cX7_otherLasts 4 = .ok (.invokevirtual 75, 3) := by decide +kernel
theorem dX7_otherLasts_7 : decode cX7_otherLasts 7 = .ok (.i2l, 1) := by decide +kernel
theorem dX7_otherLasts_8 : decode cX7_otherLasts 8 = .ok (.lstore 6, 2) := by decide +kernel
theorem dX7_otherLasts_10 : decode cX7_otherLasts 10 = .ok (.aload_n 0, 1) := by decide +kernel
theorem dX7_otherLasts_11 : decode cX7_otherLasts 11 = .ok (.getfield 64, 3) := by decide +kernel
theorem dX7_otherLasts_14 : decode cX7_otherLasts 14 = .ok (.iload_n 3, 1) := by decide +kernel
theorem dX7_otherLasts_15 : decode cX7_otherLasts 15 = .ok (.iconst 1, 1) := by decide +kernel
theorem dX7_otherLasts_16 : decode cX7_otherLasts 16 = .ok (.iadd, 1) := by decide +kernel
theorem dX7_otherLasts_17 : decode cX7_otherLasts 17 = .ok (.invokevirtual 110, 3) := by decide +kernel
theorem dX7_otherLasts_20 : decode cX7_otherLasts 20 = .ok (.i2l, 1) := by decide +kernel
theorem dX7_otherLasts_21 : decode cX7_otherLasts 21 = .ok (.lstore 8, 2) := by decide +kernel
theorem dX7_otherLasts_23 : decode cX7_otherLasts 23 = .ok (.lload 6, 2) := by decide +kernel
theorem dX7_otherLasts_25 : decode cX7_otherLasts 25 = .ok (.iconst 2, 1) := by decide +kernel
theorem dX7_otherLasts_26 : decode cX7_otherLasts 26 = .ok (.iload_n 2, 1) := by decide +kernel
theorem dX7_otherLasts_27 : decode cX7_otherLasts 27 = .ok (.imul, 1) := by decide +kernel
theorem dX7_otherLasts_28 : decode cX7_otherLasts 28 = .ok (.invokestatic 196, 3) := by decide +kernel
theorem dX7_otherLasts_31 : decode cX7_otherLasts 31 = .ok (.lstore 10, 2) := by decide +kernel
theorem dX7_otherLasts_33 : decode cX7_otherLasts 33 = .ok (.iload_n 3, 1) := by decide +kernel
theorem dX7_otherLasts_34 : decode cX7_otherLasts 34 = .ok (.iconst 1, 1) := by decide +kernel
theorem dX7_otherLasts_35 : decode cX7_otherLasts 35 = .ok (.iadd, 1) := by decide +kernel
theorem dX7_otherLasts_36 : decode cX7_otherLasts 36 = .ok (.iload_n 1, 1) := by decide +kernel
theorem dX7_otherLasts_37 : decode cX7_otherLasts 37 = .ok (.if_icmp .lt 23, 3) := by decide +kernel
theorem dX7_otherLasts_40 : decode cX7_otherLasts 40 = .ok (.lload 8, 2) := by decide +kernel
theorem dX7_otherLasts_42 : decode cX7_otherLasts 42 = .ok (.aload_n 0, 1) := by decide +kernel
theorem dX7_otherLasts_43 : decode cX7_otherLasts 43 = .ok (.getfield 117, 3) := by decide +kernel
theorem dX7_otherLasts_46 : decode cX7_otherLasts 46 = .ok (.aload_n 0, 1) := by decide +kernel
theorem dX7_otherLasts_47 : decode cX7_otherLasts 47 = .ok (.getfield 120, 3) := by decide +kernel
theorem dX7_otherLasts_50 : decode cX7_otherLasts 50 = .ok (.iadd, 1) := by decide +kernel
theorem dX7_otherLasts_51 : decode cX7_otherLasts 51 = .ok (.i2l, 1) := by decide +kernel
theorem dX7_otherLasts_52 : decode cX7_otherLasts 52 = .ok (.lload 10, 2) := by decide +kernel
theorem dX7_otherLasts_54 : decode cX7_otherLasts 54 = .ok (.lmul, 1) := by decide +kernel
theorem dX7_otherLasts_55 : decode cX7_otherLasts 55 = .ok (.lload 4, 2) := by decide +kernel
theorem dX7_otherLasts_57 : decode cX7_otherLasts 57 = .ok (.ladd, 1) := by decide +kernel
theorem dX7_otherLasts_58 : decode cX7_otherLasts 58 = .ok (.lmul, 1) := by decide +kernel
theorem dX7_otherLasts_59 : decode cX7_otherLasts 59 = .ok (.lreturn, 1) := by decide +kernel
theorem dX7_otherLasts_60 : decode cX7_otherLasts 60 = .ok (.lload 8, 2) := by decide +kernel
theorem dX7_otherLasts_62 : decode cX7_otherLasts 62 = .ok (.aload_n 0, 1) := by decide +kernel
theorem dX7_otherLasts_63 : decode cX7_otherLasts 63 = .ok (.getfield 117, 3) := by decide +kernel
theorem dX7_otherLasts_66 : decode cX7_otherLasts 66 = .ok (.i2l, 1) := by decide +kernel
theorem dX7_otherLasts_67 : decode cX7_otherLasts 67 = .ok (.lmul, 1) := by decide +kernel
theorem dX7_otherLasts_68 : decode cX7_otherLasts 68 = .ok (.lload 10, 2) := by decide +kernel
theorem dX7_otherLasts_70 : decode cX7_otherLasts 70 = .ok (.lmul, 1) := by decide +kernel
theorem dX7_otherLasts_71 : decode cX7_otherLasts 71 = .ok (.lload 6, 2) := by decide +kernel
theorem dX7_otherLasts_73 : decode cX7_otherLasts 73 = .ok (.aload_n 0, 1) := by decide +kernel
theorem dX7_otherLasts_74 : decode cX7_otherLasts 74 = .ok (.iload_n 1, 1) := by decide +kernel
theorem dX7_otherLasts_75 : decode cX7_otherLasts 75 = .ok (.iload_n 2, 1) := by decide +kernel
theorem dX7_otherLasts_76 : decode cX7_otherLasts 76 = .ok (.iconst 1, 1) := by decide +kernel
theorem dX7_otherLasts_77 : decode cX7_otherLasts 77 = .ok (.isub, 1) := by decide +kernel
theorem dX7_otherLasts_78 : decode cX7_otherLasts 78 = .ok (.iconst 0, 1) := by decide +kernel
theorem dX7_otherLasts_79 : decode cX7_otherLasts 79 = .ok (.iload_n 3, 1) := by decide +kernel
theorem dX7_otherLasts_80 : decode cX7_otherLasts 80 = .ok (.iconst 1, 1) := by decide +kernel
theorem dX7_otherLasts_81 : decode cX7_otherLasts 81 = .ok (.iadd, 1) := by decide +kernel
theorem dX7_otherLasts_82 : decode cX7_otherLasts 82 = .ok (.invokestatic 192, 3) := by decide +kernel
theorem dX7_otherLasts_85 : decode cX7_otherLasts 85 = .ok (.lmul, 1) := by decide +kernel
theorem dX7_otherLasts_86 : decode cX7_otherLasts 86 = .ok (.ladd, 1) := by decide +kernel
theorem dX7_otherLasts_87 : decode cX7_otherLasts 87 = .ok (.lreturn, 1) := by decide +kernel

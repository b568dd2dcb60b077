theorem dX0_init_0 : decode cX0_init 0 = .ok (.aload_n 0, 1) := by decide +kernel
theorem dX0_init_1 : decode cX0_init 1 = .ok (.invokespecial 3, 3) := by decide +kernel
theorem dX0_init_4 : decode cX0_init 4 = .ok (.aload_n 0, 1) := by decide +kernel
theorem dX0_init_5 : decode cX0_init 5 = .ok (.lconst 1, 1) := by decide +kernel
theorem dX0_init_6 : decode cX0_init 6 = .ok (.putfield 9, 3) := by decide +kernel
theorem dX0_init_9 : decode cX0_init 9 = .ok (.aload_n 0, 1) := by decide +kernel
theorem dX0_init_10 : decode cX0_init 10 = .ok (.bipush 9, 2) := by decide +kernel
theorem dX0_init_12 : decode cX0_init 12 = .ok (.newarray .long, 2) := by decide +kernel
theorem dX0_init_14 : decode cX0_init 14 = .ok (.putfield 15, 3) := by decide +kernel
theorem dX0_init_17 : decode cX0_init 17 = .ok (.aload_n 0, 1) := by decide +kernel
theorem dX0_init_18 : decode cX0_init 18 = .ok (.bipush 9, 2) := by decide +kernel
theorem dX0_init_20 : decode cX0_init 20 = .ok (.newarray .long, 2) := by decide +kernel
theorem dX0_init_22 : decode cX0_init 22 = .ok (.putfield 19, 3) := by decide +kernel
theorem dX0_init_25 : decode cX0_init 25 = .ok (.return_, 1) := by decide +kernel
set_option maxRecDepth 20000 in
theorem ggX0_reckon_J7_fill_d0a16 : GoodIn wsX0_reckon wsJ7_fill_d0a16 := goodIn_r _ [8] (by decide +kernel) (by decide +kernel)
set_option maxRecDepth 20000 in
theorem gX0_reckon_J7_fill_d0a16 : GoodIn wsX0_reckon (va_wsS RX0 25 yJ7_fill_d0a16 wsJ7_fill_d0a16) := goodIn_app (goodIn_of _ (by decide +kernel)) ggX0_reckon_J7_fill_d0a16
set_option maxRecDepth 20000 in
theorem ggX0_reckon_X0_addPeriodAhead : GoodIn wsX0_reckon wsX0_addPeriodAhead := goodIn_r _ [13, 14, 1, 15, 4, 3, 16, 17, 2, 18, 19, 20, 21, 22, 23, 24, 25, 26, 27, 28, 29, 30, 31, 32, 33, 34, 35, 36, 37, 38, 43, 44, 45, 46, 47, 48, 49, 50, 51, 52, 39, 40, 41, 42, 53, 54] (by decide +kernel) (by decide +kernel)
set_option maxRecDepth 20000 in
theorem gX0_reckon_X0_addPeriodAhead : GoodIn wsX0_reckon (wsV RX0 31 RX0 yX0_addPeriodAhead wsX0_addPeriodAhead) := goodIn_app (goodIn_of _ (by decide +kernel)) ggX0_reckon_X0_addPeriodAhead
theorem dX0_reckon_0 : decode cX0_reckon 0 = .ok (.aload_n 0, 1) := by decide +kernel
theorem dX0_reckon_1 : decode cX0_reckon 1 = .ok (.lconst 1, 1) := by decide +kernel
theorem dX0_reckon_2 : decode cX0_reckon 2 = .ok (.putfield 9, 3) := by decide +kernel
theorem dX0_reckon_5 : decode cX0_reckon 5 = .ok (.aload_n 0, 1) := by decide +kernel
theorem dX0_reckon_6 : decode cX0_reckon 6 = .ok (.lconst 0, 1) := by decide +kernel
theorem dX0_reckon_7 : decode cX0_reckon 7 = .ok (.putfield 22, 3) := by decide +kernel
theorem dX0_reckon_10 : decode cX0_reckon 10 = .ok (.aload_n 0, 1) := by decide +kernel
theorem dX0_reckon_11 : decode cX0_reckon 11 = .ok (.getfield 15, 3) := by decide +kernel
theorem dX0_reckon_14 : decode cX0_reckon 14 = .ok (.lconst 0, 1) := by decide +kernel
theorem dX0_reckon_15 : decode cX0_reckon 15 = .ok (.invokestatic 25, 3) := by decide +kernel
theorem dX0_reckon_18 : decode cX0_reckon 18 = .ok (.aload_n 0, 1) := by decide +kernel
theorem dX0_reckon_19 : decode cX0_reckon 19 = .ok (.getfield 19, 3) := by decide +kernel
theorem dX0_reckon_22 : decode cX0_reckon 22 = .ok (.lconst 0, 1) := by decide +kernel
theorem dX0_reckon_23 : decode cX0_reckon 23 = .ok (.invokestatic 25, 3) := by decide +kernel
theorem dX0_reckon_26 : decode cX0_reckon 26 = .ok (.iconst 1, 1) := by decide +kernel
theorem dX0_reckon_27 : decode cX0_reckon 27 = .ok (.istore_n 3, 1) := by decide +kernel
theorem dX0_reckon_28 : decode cX0_reckon 28 = .ok (.iload_n 3, 1) := by decide +kernel
theorem dX0_reckon_29 : decode cX0_reckon 29 = .ok (.iload_n 2, 1) := by decide +kernel
theorem dX0_reckon_30 : decode cX0_reckon 30 = .ok (.if_icmp .gt 14, 3) := by decide +kernel
theorem dX0_reckon_33 : decode cX0_reckon 33 = .ok (.aload_n 0, 1) := by decide +kernel
theorem dX0_reckon_34 : decode cX0_reckon 34 = .ok (.aload_n 1, 1) := by decide +kernel
theorem dX0_reckon_35 : decode cX0_reckon 35 = .ok (.invokevirtual 31, 3) := by decide +kernel
theorem dX0_reckon_38 : decode cX0_reckon 38 = .ok (.iinc 3 1, 3) := by decide +kernel
theorem dX0_reckon_41 : decode cX0_reckon 41 = .ok (.goto (-13), 3) := by decide +kernel
theorem dX0_reckon_44 : decode cX0_reckon 44 = .ok (.return_, 1) := by decide +kernel
set_option maxRecDepth 20000 in
theorem ggX0_addPeriodAhead_X5_all : GoodIn wsX0_addPeriodAhead wsX5_all := goodIn_r _ [17, 18, 19, 20, 16, 21, 22, 23, 24, 25, 26, 27, 44, 45] (by decide +kernel) (by decide +kernel)
set_option maxRecDepth 20000 in
theorem gX0_addPeriodAhead_X5_all : GoodIn wsX0_addPeriodAhead (wsV RX0 41 RX5 yX5_all wsX5_all) := goodIn_app (goodIn_of _ (by decide +kernel)) ggX0_addPeriodAhead_X5_all
set_option maxRecDepth 20000 in
theorem ggX0_addPeriodAhead_X5_weightOf : GoodIn wsX0_addPeriodAhead wsX5_weightOf := goodIn_r _ [26, 22, 27, 44, 45] (by decide +kernel) (by decide +kernel)
set_option maxRecDepth 20000 in
theorem gX0_addPeriodAhead_X5_weightOf : GoodIn wsX0_addPeriodAhead (wsV RX0 51 RX5 yX5_weightOf wsX5_weightOf) := goodIn_app (goodIn_of _ (by decide +kernel)) ggX0_addPeriodAhead_X5_weightOf
set_option maxRecDepth 20000 in
theorem ggX0_addPeriodAhead_X5_left : GoodIn wsX0_addPeriodAhead wsX5_left := goodIn_r _ [21, 22, 23, 24, 25, 16, 26, 27, 44, 45] (by decide +kernel) (by decide +kernel)
set_option maxRecDepth 20000 in
theorem gX0_addPeriodAhead_X5_left : GoodIn wsX0_addPeriodAhead (wsV RX0 61 RX5 yX5_left wsX5_left) := goodIn_app (goodIn_of _ (by decide +kernel)) ggX0_addPeriodAhead_X5_left
theorem dX0_addPeriodAhead_0 : decode cX0_addPeriodAhead 0 = .ok (.aload_n 1, 1) := by decide +kernel
theorem dX0_addPeriodAhead_1 : decode cX0_addPeriodAhead 1 = .ok (.getfield 35, 3) := by decide +kernel
theorem dX0_addPeriodAhead_4 : decode cX0_addPeriodAhead 4 = .ok (.astore_n 2, 1) := by decide +kernel
theorem dX0_addPeriodAhead_5 : decode cX0_addPeriodAhead 5 = .ok (.aload_n 2, 1) := by decide +kernel
theorem dX0_addPeriodAhead_6 : decode cX0_addPeriodAhead 6 = .ok (.invokevirtual 41, 3) := by decide +kernel
theorem dX0_addPeriodAhead_9 : decode cX0_addPeriodAhead 9 = .ok (.i2l, 1) := by decide +kernel
theorem dX0_addPeriodAhead_10 : decode cX0_addPeriodAhead 10 = .ok (.lstore_n 3, 1) := by decide +kernel
theorem dX0_addPeriodAhead_11 : decode cX0_addPeriodAhead 11 = .ok (.aload_n 0, 1) := by decide +kernel
theorem dX0_addPeriodAhead_12 : decode cX0_addPeriodAhead 12 = .ok (.dup, 1) := by decide +kernel
theorem dX0_addPeriodAhead_13 : decode cX0_addPeriodAhead 13 = .ok (.getfield 9, 3) := by decide +kernel
theorem dX0_addPeriodAhead_16 : decode cX0_addPeriodAhead 16 = .ok (.lload_n 3, 1) := by decide +kernel
theorem dX0_addPeriodAhead_17 : decode cX0_addPeriodAhead 17 = .ok (.lmul, 1) := by decide +kernel
theorem dX0_addPeriodAhead_18 : decode cX0_addPeriodAhead 18 = .ok (.putfield 9, 3) := by decide +kernel
theorem dX0_addPeriodAhead_21 : decode cX0_addPeriodAhead 21 = .ok (.iconst 0, 1) := by decide +kernel
theorem dX0_addPeriodAhead_22 : decode cX0_addPeriodAhead 22 = .ok (.istore 5, 2) := by decide +kernel
theorem dX0_addPeriodAhead_24 : decode cX0_addPeriodAhead 24 = .ok (.iload 5, 2) := by decide +kernel
theorem dX0_addPeriodAhead_26 : decode cX0_addPeriodAhead 26 = .ok (.aload_n 2, 1) := by decide +kernel
theorem dX0_addPeriodAhead_27 : decode cX0_addPeriodAhead 27 = .ok (.getfield 47, 3) := by decide +kernel
theorem dX0_addPeriodAhead_30 : decode cX0_addPeriodAhead 30 = .ok (.if_icmp .ge 67, 3) := by decide +kernel
theorem dX0_addPeriodAhead_33 : decode cX0_addPeriodAhead 33 = .ok (.iload 5, 2) := by decide +kernel
theorem dX0_addPeriodAhead_35 : decode cX0_addPeriodAhead 35 = .ok (.iconst 1, 1) := by decide +kernel
theorem dX0_addPeriodAhead_36 : decode cX0_addPeriodAhead 36 = .ok (.iadd, 1) := by decide +kernel
theorem dX0_addPeriodAhead_37 : decode cX0_addPeriodAhead 37 = .ok (.aload_n 0, 1) := by decide +kernel
theorem dX0_addPeriodAhead_38 : decode cX0_addPeriodAhead 38 = .ok (.getfield 19, 3) := by decide +kernel
theorem dX0_addPeriodAhead_41 : decode cX0_addPeriodAhead 41 = .ok (.arraylength, 1) := by decide +kernel
theorem dX0_addPeriodAhead_42 : decode cX0_addPeriodAhead 42 = .ok (.if_icmp .ge 55, 3) := by decide +kernel
theorem dX0_addPeriodAhead_45 : decode cX0_addPeriodAhead 45 = .ok (.aload_n 0, 1) := by decide +kernel
theorem dX0_addPeriodAhead_46 : decode cX0_addPeriodAhead 46 = .ok (.getfield 15, 3) := by decide +kernel
theorem dX0_addPeriodAhead_49 : decode cX0_addPeriodAhead 49 = .ok (.iload 5, 2) := by decide +kernel
theorem dX0_addPeriodAhead_51 : decode cX0_addPeriodAhead 51 = .ok (.aload_n 2, 1) := by decide +kernel
theorem dX0_addPeriodAhead_52 : decode cX0_addPeriodAhead 52 = .ok (.iload 5, 2) := by decide +kernel
theorem dX0_addPeriodAhead_54 : decode cX0_addPeriodAhead 54 = .ok (.iconst 1, 1) := by decide +kernel
theorem dX0_addPeriodAhead_55 : decode cX0_addPeriodAhead 55 = .ok (.iadd, 1) := by decide +kernel
theorem dX0_addPeriodAhead_56 : decode cX0_addPeriodAhead 56 = .ok (.invokevirtual 51, 3) := by decide +kernel
theorem dX0_addPeriodAhead_59 : decode cX0_addPeriodAhead 59 = .ok (.i2l, 1) := by decide +kernel
theorem dX0_addPeriodAhead_60 : decode cX0_addPeriodAhead 60 = .ok (.aload_n 1, 1) := by decide +kernel
theorem dX0_addPeriodAhead_61 : decode cX0_addPeriodAhead 61 = .ok (.getfield 55, 3) := by decide +kernel
theorem dX0_addPeriodAhead_64 : decode cX0_addPeriodAhead 64 = .ok (.i2l, 1) := by decide +kernel
theorem dX0_addPeriodAhead_65 : decode cX0_addPeriodAhead 65 = .ok (.aload_n 0, 1) := by decide +kernel
theorem dX0_addPeriodAhead_66 : decode cX0_addPeriodAhead 66 = .ok (.getfield 9, 3) := by decide +kernel
theorem dX0_addPeriodAhead_69 : decode cX0_addPeriodAhead 69 = .ok (.lmul, 1) := by decide +kernel
theorem dX0_addPeriodAhead_70 : decode cX0_addPeriodAhead 70 = .ok (.aload_n 0, 1) := by decide +kernel
theorem dX0_addPeriodAhead_71 : decode cX0_addPeriodAhead 71 = .ok (.getfield 19, 3) := by decide +kernel
theorem dX0_addPeriodAhead_74 : decode cX0_addPeriodAhead 74 = .ok (.iconst 0, 1) := by decide +kernel
theorem dX0_addPeriodAhead_75 : decode cX0_addPeriodAhead 75 = .ok (.laload, 1) := by decide +kernel
theorem dX0_addPeriodAhead_76 : decode cX0_addPeriodAhead 76 = .ok (.ladd, 1) := by decide +kernel
theorem dX0_addPeriodAhead_77 : decode cX0_addPeriodAhead 77 = .ok (.lmul, 1) := by decide +kernel
theorem dX0_addPeriodAhead_78 : decode cX0_addPeriodAhead 78 = .ok (.lload_n 3, 1) := by decide +kernel
theorem dX0_addPeriodAhead_79 : decode cX0_addPeriodAhead 79 = .ok (.aload_n 0, 1) := by decide +kernel
theorem dX0_addPeriodAhead_80 : decode cX0_addPeriodAhead 80 = .ok (.getfield 19, 3) := by decide +kernel
theorem dX0_addPeriodAhead_83 : decode cX0_addPeriodAhead 83 = .ok (.iload 5, 2) := by decide +kernel
theorem dX0_addPeriodAhead_85 : decode cX0_addPeriodAhead 85 = .ok (.iconst 1, 1) := by decide +kernel
theorem dX0_addPeriodAhead_86 : decode cX0_addPeriodAhead 86 = .ok (.iadd, 1) := by decide +kernel
theorem dX0_addPeriodAhead_87 : decode cX0_addPeriodAhead 87 = .ok (.laload, 1) := by decide +kernel
theorem dX0_addPeriodAhead_88 : decode cX0_addPeriodAhead 88 = .ok (.lmul, 1) := by decide +kernel
theorem dX0_addPeriodAhead_89 : decode cX0_addPeriodAhead 89 = .ok (.ladd, 1) := by decide +kernel
theorem dX0_addPeriodAhead_90 : decode cX0_addPeriodAhead 90 = .ok (.lastore, 1) := by decide +kernel
theorem dX0_addPeriodAhead_91 : decode cX0_addPeriodAhead 91 = .ok (.iinc 5 1, 3) := by decide +kernel
theorem dX0_addPeriodAhead_94 : decode cX0_addPeriodAhead 94 = .ok (.goto (-70), 3) := by decide +kernel
theorem dX0_addPeriodAhead_97 : decode cX0_addPeriodAhead 97 = .ok (.aload_n 0, 1) := by decide +kernel
theorem dX0_addPeriodAhead_98 : decode cX0_addPeriodAhead 98 = .ok (.aload_n 1, 1) := by decide +kernel
theorem dX0_addPeriodAhead_99 : decode cX0_addPeriodAhead 99 = .ok (.getfield 58, 3) := by decide +kernel
theorem dX0_addPeriodAhead_102 : decode cX0_addPeriodAhead 102 = .ok (.i2l, 1) := by decide +kernel
theorem dX0_addPeriodAhead_103 : decode cX0_addPeriodAhead 103 = .ok (.aload_n 0, 1) := by decide +kernel
theorem dX0_addPeriodAhead_104 : decode cX0_addPeriodAhead 104 = .ok (.getfield 9, 3) := by decide +kernel
theorem dX0_addPeriodAhead_107 : decode cX0_addPeriodAhead 107 = .ok (.lmul, 1) := by decide +kernel
theorem dX0_addPeriodAhead_108 : decode cX0_addPeriodAhead 108 = .ok (.lload_n 3, 1) := by decide +kernel
theorem dX0_addPeriodAhead_109 : decode cX0_addPeriodAhead 109 = .ok (.lconst 0, 1) := by decide +kernel
theorem dX0_addPeriodAhead_110 : decode cX0_addPeriodAhead 110 = .ok (.lcmp, 1) := by decide +kernel
theorem dX0_addPeriodAhead_111 : decode cX0_addPeriodAhead 111 = .ok (.ifCond .le 14, 3) := by decide +kernel
theorem dX0_addPeriodAhead_114 : decode cX0_addPeriodAhead 114 = .ok (.aload_n 0, 1) := by decide +kernel
theorem dX0_addPeriodAhead_115 : decode cX0_addPeriodAhead 115 = .ok (.getfield 15, 3) := by decide +kernel
theorem dX0_addPeriodAhead_118 : decode cX0_addPeriodAhead 118 = .ok (.iconst 0, 1) := by decide +kernel
theorem dX0_addPeriodAhead_119 : decode cX0_addPeriodAhead 119 = .ok (.laload, 1) := by decide +kernel
theorem dX0_addPeriodAhead_120 : decode cX0_addPeriodAhead 120 = .ok (.lload_n 3, 1) := by decide +kernel
theorem dX0_addPeriodAhead_121 : decode cX0_addPeriodAhead 121 = .ok (.ldiv, 1) := by decide +kernel
theorem dX0_addPeriodAhead_122 : decode cX0_addPeriodAhead 122 = .ok (.goto 4, 3) := by decide +kernel
theorem dX0_addPeriodAhead_125 : decode cX0_addPeriodAhead 125 = .ok (.lconst 0, 1) := by decide +kernel
theorem dX0_addPeriodAhead_126 : decode cX0_addPeriodAhead 126 = .ok (.ladd, 1) := by decide +kernel
theorem dX0_addPeriodAhead_127 : decode cX0_addPeriodAhead 127 = .ok (.putfield 22, 3) := by decide +kernel
theorem dX0_addPeriodAhead_130 : decode cX0_addPeriodAhead 130 = .ok (.iconst 0, 1) := by decide +kernel
theorem dX0_addPeriodAhead_131 : decode cX0_addPeriodAhead 131 = .ok (.istore 5, 2) := by decide +kernel
theorem dX0_addPeriodAhead_133 : decode cX0_addPeriodAhead 133 = .ok (.iload 5, 2) := by decide +kernel
theorem dX0_addPeriodAhead_135 : decode cX0_addPeriodAhead 135 = .ok (.aload_n 2, 1) := by decide +kernel
theorem dX0_addPeriodAhead_136 : decode cX0_addPeriodAhead 136 = .ok (.getfield 47, 3) := by decide +kernel
theorem dX0_addPeriodAhead_139 : decode cX0_addPeriodAhead 139 = .ok (.if_icmp .ge 48, 3) := by decide +kernel
theorem dX0_addPeriodAhead_142 : decode cX0_addPeriodAhead 142 = .ok (.iload 5, 2) := by decide +kernel
theorem dX0_addPeriodAhead_144 : decode cX0_addPeriodAhead 144 = .ok (.aload_n 0, 1) := by decide +kernel
theorem dX0_addPeriodAhead_145 : decode cX0_addPeriodAhead 145 = .ok (.getfield 19, 3) := by decide +kernel
theorem dX0_addPeriodAhead_148 : decode cX0_addPeriodAhead 148 = .ok (.arraylength, 1) := by decide +kernel
theorem dX0_addPeriodAhead_149 : decode cX0_addPeriodAhead 149 = .ok (.if_icmp .ge 38, 3) := by decide +kernel
theorem dX0_addPeriodAhead_152 : decode cX0_addPeriodAhead 152 = .ok (.aload_n 0, 1) := by decide +kernel
theorem dX0_addPeriodAhead_153 : decode cX0_addPeriodAhead 153 = .ok (.getfield 19, 3) := by decide +kernel
theorem dX0_addPeriodAhead_156 : decode cX0_addPeriodAhead 156 = .ok (.iload 5, 2) := by decide +kernel
theorem dX0_addPeriodAhead_158 : decode cX0_addPeriodAhead 158 = .ok (.aload_n 0, 1) := by decide +kernel
theorem dX0_addPeriodAhead_159 : decode cX0_addPeriodAhead 159 = .ok (.getfield 15, 3) := by decide +kernel
theorem dX0_addPeriodAhead_162 : decode cX0_addPeriodAhead 162 = .ok (.iload 5, 2) := by decide +kernel
theorem dX0_addPeriodAhead_164 : decode cX0_addPeriodAhead 164 = .ok (.laload, 1) := by decide +kernel
theorem dX0_addPeriodAhead_165 : decode cX0_addPeriodAhead 165 = .ok (.aload_n 2, 1) := by decide +kernel
theorem dX0_addPeriodAhead_166 : decode cX0_addPeriodAhead 166 = .ok (.iload 5, 2) := by decide +kernel
theorem dX0_addPeriodAhead_168 : decode cX0_addPeriodAhead 168 = .ok (.invokevirtual 61, 3) := by decide +kernel
theorem dX0_addPeriodAhead_171 : decode cX0_addPeriodAhead 171 = .ok (.i2l, 1) := by decide +kernel
theorem dX0_addPeriodAhead_172 : decode cX0_addPeriodAhead 172 = .ok (.aload_n 0, 1) := by decide +kernel
theorem dX0_addPeriodAhead_173 : decode cX0_addPeriodAhead 173 = .ok (.getfield 22, 3) := by decide +kernel
theorem dX0_addPeriodAhead_176 : decode cX0_addPeriodAhead 176 = .ok (.lmul, 1) := by decide +kernel
theorem dX0_addPeriodAhead_177 : decode cX0_addPeriodAhead 177 = .ok (.invokestatic 64, 3) := by decide +kernel
theorem dX0_addPeriodAhead_180 : decode cX0_addPeriodAhead 180 = .ok (.lastore, 1) := by decide +kernel
theorem dX0_addPeriodAhead_181 : decode cX0_addPeriodAhead 181 = .ok (.iinc 5 1, 3) := by decide +kernel
theorem dX0_addPeriodAhead_184 : decode cX0_addPeriodAhead 184 = .ok (.goto (-51), 3) := by decide +kernel
theorem dX0_addPeriodAhead_187 : decode cX0_addPeriodAhead 187 = .ok (.return_, 1) := by decide +kernel
set_option maxRecDepth 20000 in
theorem ggX0_isBetter_X5_left : GoodIn wsX0_isBetter wsX5_left := goodIn_r _ [7, 8, 9, 10, 11, 6, 12, 13, 18, 19] (by decide +kernel) (by decide +kernel)
set_option maxRecDepth 20000 in
theorem gX0_isBetter_X5_left : GoodIn wsX0_isBetter (wsV RX0 61 RX5 yX5_left wsX5_left) := goodIn_app (goodIn_of _ (by decide +kernel)) ggX0_isBetter_X5_left
theorem dX0_isBetter_0 : decode cX0_isBetter 0 = .ok (.iload_n 1, 1) := by decide +kernel
theorem dX0_isBetter_1 : decode cX0_isBetter 1 = .ok (.ifCond .lt 37, 3) := by decide +kernel
theorem dX0_isBetter_4 : decode cX0_isBetter 4 = .ok (.iload_n 1, 1) := by decide +kernel
theorem dX0_isBetter_5 : decode cX0_isBetter 5 = .ok (.aload_n 0, 1) := by decide +kernel
theorem dX0_isBetter_6 : decode cX0_isBetter 6 = .ok (.getfield 15, 3) := by decide +kernel
theorem dX0_isBetter_9 : decode cX0_isBetter 9 = .ok (.arraylength, 1) := by decide +kernel
theorem dX0_isBetter_10 : decode cX0_isBetter 10 = .ok (.if_icmp .ge 28, 3) := by decide +kernel
theorem dX0_isBetter_13 : decode cX0_isBetter 13 = .ok (.aload_n 2, 1) := by decide +kernel
theorem dX0_isBetter_14 : decode cX0_isBetter 14 = .ok (.iload_n 1, 1) := by decide +kernel
theorem dX0_isBetter_15 : decode cX0_isBetter 15 = .ok (.invokevirtual 61, 3) := by decide +kernel
theorem dX0_isBetter_18 : decode cX0_isBetter 18 = .ok (.i2l, 1) := by decide +kernel
theorem dX0_isBetter_19 : decode cX0_isBetter 19 = .ok (.aload_n 0, 1) := by decide +kernel
theorem dX0_isBetter_20 : decode cX0_isBetter 20 = .ok (.getfield 22, 3) := by decide +kernel
theorem dX0_isBetter_23 : decode cX0_isBetter 23 = .ok (.lmul, 1) := by decide +kernel
theorem dX0_isBetter_24 : decode cX0_isBetter 24 = .ok (.aload_n 0, 1) := by decide +kernel
theorem dX0_isBetter_25 : decode cX0_isBetter 25 = .ok (.getfield 15, 3) := by decide +kernel
theorem dX0_isBetter_28 : decode cX0_isBetter 28 = .ok (.iload_n 1, 1) := by decide +kernel
theorem dX0_isBetter_29 : decode cX0_isBetter 29 = .ok (.laload, 1) := by decide +kernel
theorem dX0_isBetter_30 : decode cX0_isBetter 30 = .ok (.lcmp, 1) := by decide +kernel
theorem dX0_isBetter_31 : decode cX0_isBetter 31 = .ok (.ifCond .ge 7, 3) := by decide +kernel
theorem dX0_isBetter_34 : decode cX0_isBetter 34 = .ok (.iconst 1, 1) := by decide +kernel
theorem dX0_isBetter_35 : decode cX0_isBetter 35 = .ok (.goto 4, 3) := by decide +kernel
theorem dX0_isBetter_38 : decode cX0_isBetter 38 = .ok (.iconst 0, 1) := by decide +kernel
theorem dX0_isBetter_39 : decode cX0_isBetter 39 = .ok (.ireturn, 1) := by decide +kernel
theorem dX0_costFrom_0 : decode cX0_costFrom 0 = .ok (.iload_n 1, 1) := by decide +kernel
theorem dX0_costFrom_1 : decode cX0_costFrom 1 = .ok (.ifCond .lt 21, 3) := by decide +kernel
theorem dX0_costFrom_4 : decode cX0_costFrom 4 = .ok (.iload_n 1, 1) := by decide +kernel
theorem dX0_costFrom_5 : decode cX0_costFrom 5 = .ok (.aload_n 0, 1) := by decide +kernel
theorem dX0_costFrom_6 : decode cX0_costFrom 6 = .ok (.getfield 19, 3) := by decide +kernel
theorem dX0_costFrom_9 : decode cX0_costFrom 9 = .ok (.arraylength, 1) := by decide +kernel
theorem dX0_costFrom_10 : decode cX0_costFrom 10 = .ok (.if_icmp .ge 12, 3) := by decide +kernel
theorem dX0_costFrom_13 : decode cX0_costFrom 13 = .ok (.aload_n 0, 1) := by decide +kernel
theorem dX0_costFrom_14 : decode cX0_costFrom 14 = .ok (.getfield 19, 3) := by decide +kernel
theorem dX0_costFrom_17 : decode cX0_costFrom 17 = .ok (.iload_n 1, 1) := by decide +kernel
theorem dX0_costFrom_18 : decode cX0_costFrom 18 = .ok (.laload, 1) := by decide +kernel
theorem dX0_costFrom_19 : decode cX0_costFrom 19 = .ok (.goto 4, 3) := by decide +kernel
theorem dX0_costFrom_22 : decode cX0_costFrom 22 = .ok (.lconst 0, 1) := by decide +kernel
theorem dX0_costFrom_23 : decode cX0_costFrom 23 = .ok (.lreturn, 1) := by decide +kernel
set_option maxRecDepth 20000 in
theorem ggX1_init_X2_init : GoodIn wsX1_init wsX2_init := goodIn_r _ [9, 10, 2, 3, 11, 12, 13, 14, 15, 16, 17, 18, 19, 20, 21, 22, 23, 24, 37, 38, 27, 28, 29, 30, 31, 32, 33, 34, 35, 36] (by decide +kernel) (by decide +kernel)
set_option maxRecDepth 20000 in
theorem gX1_init_X2_init_n17 : GoodIn wsX1_init (wsX2_init) := ggX1_init_X2_init
theorem dX1_init_0 : decode cX1_init 0 = .ok (.aload_n 0, 1) := by decide +kernel
theorem dX1_init_1 : decode cX1_init 1 = .ok (.invokespecial 3, 3) := by decide +kernel
theorem dX1_init_4 : decode cX1_init 4 = .ok (.aload_n 0, 1) := by decide +kernel
theorem dX1_init_5 : decode cX1_init 5 = .ok (.bipush 6, 2) := by decide +kernel
theorem dX1_init_7 : decode cX1_init 7 = .ok (.anewarray 9, 3) := by decide +kernel
theorem dX1_init_10 : decode cX1_init 10 = .ok (.putfield 11, 3) := by decide +kernel
theorem dX1_init_13 : decode cX1_init 13 = .ok (.iconst 0, 1) := by decide +kernel
theorem dX1_init_14 : decode cX1_init 14 = .ok (.istore_n 1, 1) := by decide +kernel
theorem dX1_init_15 : decode cX1_init 15 = .ok (.iload_n 1, 1) := by decide +kernel
theorem dX1_init_16 : decode cX1_init 16 = .ok (.bipush 6, 2) := by decide +kernel
theorem dX1_init_18 : decode cX1_init 18 = .ok (.if_icmp .ge 22, 3) := by decide +kernel
theorem dX1_init_21 : decode cX1_init 21 = .ok (.aload_n 0, 1) := by decide +kernel
theorem dX1_init_22 : decode cX1_init 22 = .ok (.getfield 11, 3) := by decide +kernel
theorem dX1_init_25 : decode cX1_init 25 = .ok (.iload_n 1, 1) := by decide +kernel
theorem dX1_init_26 : decode cX1_init 26 = .ok (.new 9, 3) := by decide +kernel
theorem dX1_init_29 : decode cX1_init 29 = .ok (.dup, 1) := by decide +kernel
theorem dX1_init_30 : decode cX1_init 30 = .ok (.invokespecial 17, 3) := by decide +kernel
theorem dX1_init_33 : decode cX1_init 33 = .ok (.aastore, 1) := by decide +kernel
theorem dX1_init_34 : decode cX1_init 34 = .ok (.iinc 1 1, 3) := by decide +kernel
theorem dX1_init_37 : decode cX1_init 37 = .ok (.goto (-22), 3) := by decide +kernel
theorem dX1_init_40 : decode cX1_init 40 = .ok (.return_, 1) := by decide +kernel
set_option maxRecDepth 20000 in
theorem ggX1_keep_X1_loseOldest : GoodIn wsX1_keep wsX1_loseOldest := goodIn_r _ [7, 2, 1, 34, 35] (by decide +kernel) (by decide +kernel)
set_option maxRecDepth 20000 in
theorem gX1_keep_X1_loseOldest : GoodIn wsX1_keep (wsV RX1 22 RX1 yX1_loseOldest wsX1_loseOldest) := goodIn_app (goodIn_of _ (by decide +kernel)) ggX1_keep_X1_loseOldest
set_option maxRecDepth 20000 in
theorem ggX1_keep_X2_takeFrom : GoodIn wsX1_keep wsX2_takeFrom := goodIn_r _ [12, 13, 14, 15, 16, 17, 18, 19, 20, 21, 22, 23, 24, 25, 26, 27, 28, 29, 30, 31, 32, 33, 36, 37, 38, 39, 40, 41, 42, 43, 44, 45, 46, 47] (by decide +kernel) (by decide +kernel)
set_option maxRecDepth 20000 in
theorem gX1_keep_X2_takeFrom : GoodIn wsX1_keep (wsV RX1 25 RX2 yX2_takeFrom wsX2_takeFrom) := goodIn_app (goodIn_of _ (by decide +kernel)) ggX1_keep_X2_takeFrom
theorem dX1_keep_0 : decode cX1_keep 0 = .ok (.aload_n 0, 1) := by decide +kernel
theorem dX1_keep_1 : decode cX1_keep 1 = .ok (.getfield 18, 3) := by decide +kernel
theorem dX1_keep_4 : decode cX1_keep 4 = .ok (.bipush 6, 2) := by decide +kernel
theorem dX1_keep_6 : decode cX1_keep 6 = .ok (.if_icmp .lt 7, 3) := by decide +kernel
theorem dX1_keep_9 : decode cX1_keep 9 = .ok (.aload_n 0, 1) := by decide +kernel
theorem dX1_keep_10 : decode cX1_keep 10 = .ok (.invokevirtual 22, 3) := by decide +kernel
theorem dX1_keep_13 : decode cX1_keep 13 = .ok (.aload_n 0, 1) := by decide +kernel
theorem dX1_keep_14 : decode cX1_keep 14 = .ok (.getfield 18, 3) := by decide +kernel
theorem dX1_keep_17 : decode cX1_keep 17 = .ok (.ifCond .lt 38, 3) := by decide +kernel
theorem dX1_keep_20 : decode cX1_keep 20 = .ok (.aload_n 0, 1) := by decide +kernel
theorem dX1_keep_21 : decode cX1_keep 21 = .ok (.getfield 18, 3) := by decide +kernel
theorem dX1_keep_24 : decode cX1_keep 24 = .ok (.aload_n 0, 1) := by decide +kernel
theorem dX1_keep_25 : decode cX1_keep 25 = .ok (.getfield 11, 3) := by decide +kernel
theorem dX1_keep_28 : decode cX1_keep 28 = .ok (.arraylength, 1) := by decide +kernel
theorem dX1_keep_29 : decode cX1_keep 29 = .ok (.if_icmp .ge 26, 3) := by decide +kernel
theorem dX1_keep_32 : decode cX1_keep 32 = .ok (.aload_n 0, 1) := by decide +kernel
theorem dX1_keep_33 : decode cX1_keep 33 = .ok (.getfield 11, 3) := by decide +kernel
theorem dX1_keep_36 : decode cX1_keep 36 = .ok (.aload_n 0, 1) := by decide +kernel
theorem dX1_keep_37 : decode cX1_keep 37 = .ok (.getfield 18, 3) := by decide +kernel
theorem dX1_keep_40 : decode cX1_keep 40 = .ok (.aaload, 1) := by decide +kernel
theorem dX1_keep_41 : decode cX1_keep 41 = .ok (.aload_n 1, 1) := by decide +kernel
theorem dX1_keep_42 : decode cX1_keep 42 = .ok (.invokevirtual 25, 3) := by decide +kernel
theorem dX1_keep_45 : decode cX1_keep 45 = .ok (.aload_n 0, 1) := by decide +kernel
theorem dX1_keep_46 : decode cX1_keep 46 = .ok (.dup, 1) := by decide +kernel
theorem dX1_keep_47 : decode cX1_keep 47 = .ok (.getfield 18, 3) := by decide +kernel
theorem dX1_keep_50 : decode cX1_keep 50 = .ok (.iconst 1, 1) := by decide +kernel
theorem dX1_keep_51 : decode cX1_keep 51 = .ok (.iadd, 1) := by decide +kernel
theorem dX1_keep_52 : decode cX1_keep 52 = .ok (.putfield 18, 3) := by decide +kernel
theorem dX1_keep_55 : decode cX1_keep 55 = .ok (.return_, 1) := by decide +kernel
theorem dX1_loseOldest_0 : decode cX1_loseOldest 0 = .ok (.aload_n 0, 1) := by decide +kernel
theorem dX1_loseOldest_1 : decode cX1_loseOldest 1 = .ok (.getfield 11, 3) := by decide +kernel
theorem dX1_loseOldest_4 : decode cX1_loseOldest 4 = .ok (.iconst 0, 1) := by decide +kernel
theorem dX1_loseOldest_5 : decode cX1_loseOldest 5 = .ok (.aaload, 1) := by decide +kernel
theorem dX1_loseOldest_6 : decode cX1_loseOldest 6 = .ok (.astore_n 1, 1) := by decide +kernel
theorem dX1_loseOldest_7 : decode cX1_loseOldest 7 = .ok (.iconst 1, 1) := by decide +kernel
theorem dX1_loseOldest_8 : decode cX1_loseOldest 8 = .ok (.istore_n 2, 1) := by decide +kernel
theorem dX1_loseOldest_9 : decode cX1_loseOldest 9 = .ok (.iload_n 2, 1) := by decide +kernel
theorem dX1_loseOldest_10 : decode cX1_loseOldest 10 = .ok (.bipush 6, 2) := by decide +kernel
theorem dX1_loseOldest_12 : decode cX1_loseOldest 12 = .ok (.if_icmp .ge 23, 3) := by decide +kernel
theorem dX1_loseOldest_15 : decode cX1_loseOldest 15 = .ok (.aload_n 0, 1) := by decide +kernel
theorem dX1_loseOldest_16 : decode cX1_loseOldest 16 = .ok (.getfield 11, 3) := by decide +kernel
theorem dX1_loseOldest_19 : decode cX1_loseOldest 19 = .ok (.iload_n 2, 1) := by decide +kernel
theorem dX1_loseOldest_20 : decode cX1_loseOldest 20 = .ok (.iconst 1, 1) := by decide +kernel
theorem dX1_loseOldest_21 : decode cX1_loseOldest 21 = .ok (.isub, 1) := by decide +kernel
theorem dX1_loseOldest_22 : decode cX1_loseOldest 22 = .ok (.aload_n 0, 1) := by decide +kernel
theorem dX1_loseOldest_23 : decode cX1_loseOldest 23 = .ok (.getfield 11, 3) := by decide +kernel
theorem dX1_loseOldest_26 : decode cX1_loseOldest 26 = .ok (.iload_n 2, 1) := by decide +kernel
theorem dX1_loseOldest_27 : decode cX1_loseOldest 27 = .ok (.aaload, 1) := by decide +kernel
theorem dX1_loseOldest_28 : decode cX1_loseOldest 28 = .ok (.aastore, 1) := by decide +kernel
theorem dX1_loseOldest_29 : decode cX1_loseOldest 29 = .ok (.iinc 2 1, 3) := by decide +kernel
theorem dX1_loseOldest_32 : decode cX1_loseOldest 32 = .ok (.goto (-23), 3) := by decide +kernel
theorem dX1_loseOldest_35 : decode cX1_loseOldest 35 = .ok (.aload_n 0, 1) := by decide +kernel
theorem dX1_loseOldest_36 : decode cX1_loseOldest 36 = .ok (.getfield 11, 3) := by decide +kernel
theorem dX1_loseOldest_39 : decode cX1_loseOldest 39 = .ok (.iconst 5, 1) := by decide +kernel
theorem dX1_loseOldest_40 : decode cX1_loseOldest 40 = .ok (.aload_n 1, 1) := by decide +kernel
theorem dX1_loseOldest_41 : decode cX1_loseOldest 41 = .ok (.aastore, 1) := by decide +kernel
theorem dX1_loseOldest_42 : decode cX1_loseOldest 42 = .ok (.aload_n 0, 1) := by decide +kernel
theorem dX1_loseOldest_43 : decode cX1_loseOldest 43 = .ok (.iconst 5, 1) := by decide +kernel
theorem dX1_loseOldest_44 : decode cX1_loseOldest 44 = .ok (.putfield 18, 3) := by decide +kernel
theorem dX1_loseOldest_47 : decode cX1_loseOldest 47 = .ok (.return_, 1) := by decide +kernel
set_option maxRecDepth 20000 in
theorem ggX1_giveBack_X2_takeFrom : GoodIn wsX1_giveBack wsX2_takeFrom := goodIn_r _ [7, 8, 9, 10, 11, 12, 13, 14, 15, 16, 17, 18, 19, 20, 21, 22, 23, 24, 25, 26, 27, 28, 31, 32, 33, 34, 35, 36, 37, 38, 39, 40, 41, 42] (by decide +kernel) (by decide +kernel)
set_option maxRecDepth 20000 in
theorem gX1_giveBack_X2_takeFrom : GoodIn wsX1_giveBack (wsV RX1 25 RX2 yX2_takeFrom wsX2_takeFrom) := goodIn_app (goodIn_of _ (by decide +kernel)) ggX1_giveBack_X2_takeFrom
theorem dX1_giveBack_0 : decode cX1_giveBack 0 = .ok (.aload_n 0, 1) := by decide +kernel
theorem dX1_giveBack_1 : decode cX1_giveBack 1 = .ok (.getfield 18, 3) := by decide +kernel
theorem dX1_giveBack_4 : decode cX1_giveBack 4 = .ok (.iconst 1, 1) := by decide +kernel
theorem dX1_giveBack_5 : decode cX1_giveBack 5 = .ok (.if_icmp .lt 15, 3) := by decide +kernel
theorem dX1_giveBack_8 : decode cX1_giveBack 8 = .ok (.aload_n 0, 1) := by decide +kernel
theorem dX1_giveBack_9 : decode cX1_giveBack 9 = .ok (.getfield 18, 3) := by decide +kernel
theorem dX1_giveBack_12 : decode cX1_giveBack 12 = .ok (.aload_n 0, 1) := by decide +kernel
theorem dX1_giveBack_13 : decode cX1_giveBack 13 = .ok (.getfield 11, 3) := by decide +kernel
theorem dX1_giveBack_16 : decode cX1_giveBack 16 = .ok (.arraylength, 1) := by decide +kernel
theorem dX1_giveBack_17 : decode cX1_giveBack 17 = .ok (.if_icmp .le 5, 3) := by decide +kernel
theorem dX1_giveBack_20 : decode cX1_giveBack 20 = .ok (.iconst 0, 1) := by decide +kernel
theorem dX1_giveBack_21 : decode cX1_giveBack 21 = .ok (.ireturn, 1) := by decide +kernel
theorem dX1_giveBack_22 : decode cX1_giveBack 22 = .ok (.aload_n 0, 1) := by decide +kernel
theorem dX1_giveBack_23 : decode cX1_giveBack 23 = .ok (.dup, 1) := by decide +kernel
theorem dX1_giveBack_24 : decode cX1_giveBack 24 = .ok (.getfield 18, 3) := by decide +kernel
theorem dX1_giveBack_27 : decode cX1_giveBack 27 = .ok (.iconst 1, 1) := by decide +kernel
theorem dX1_giveBack_28 : decode cX1_giveBack 28 = .ok (.isub, 1) := by decide +kernel
theorem dX1_giveBack_29 : decode cX1_giveBack 29 = .ok (.putfield 18, 3) := by decide +kernel
theorem dX1_giveBack_32 : decode cX1_giveBack 32 = .ok (.aload_n 1, 1) := by decide +kernel
theorem dX1_giveBack_33 : decode cX1_giveBack 33 = .ok (.aload_n 0, 1) := by decide +kernel
theorem dX1_giveBack_34 : decode cX1_giveBack 34 = .ok (.getfield 11, 3) := by decide +kernel
theorem dX1_giveBack_37 : decode cX1_giveBack 37 = .ok (.aload_n 0, 1) := by decide +kernel
theorem dX1_giveBack_38 : decode cX1_giveBack 38 = .ok (.getfield 18, 3) := by decide +kernel
theorem dX1_giveBack_41 : decode cX1_giveBack 41 = .ok (.aaload, 1) := by decide +kernel
theorem dX1_giveBack_42 : decode cX1_giveBack 42 = .ok (.invokevirtual 25, 3) := by decide +kernel
theorem dX1_giveBack_45 : decode cX1_giveBack 45 = .ok (.iconst 1, 1) := by decide +kernel
theorem dX1_giveBack_46 : decode cX1_giveBack 46 = .ok (.ireturn, 1) := by decide +kernel
set_option maxRecDepth 20000 in
theorem ggX1_takeFrom_X2_takeFrom : GoodIn wsX1_takeFrom wsX2_takeFrom := goodIn_r _ [7, 8, 9, 10, 11, 12, 13, 14, 15, 16, 17, 18, 19, 20, 21, 22, 23, 24, 25, 26, 27, 28, 31, 32, 33, 34, 35, 36, 37, 38, 39, 40, 41, 42] (by decide +kernel) (by decide +kernel)
set_option maxRecDepth 20000 in
theorem gX1_takeFrom_X2_takeFrom : GoodIn wsX1_takeFrom (wsV RX1 25 RX2 yX2_takeFrom wsX2_takeFrom) := goodIn_app (goodIn_of _ (by decide +kernel)) ggX1_takeFrom_X2_takeFrom
theorem dX1_takeFrom_0 : decode cX1_takeFrom 0 = .ok (.aload_n 0, 1) := by decide +kernel
theorem dX1_takeFrom_1 : decode cX1_takeFrom 1 = .ok (.aload_n 1, 1) := by decide +kernel
theorem dX1_takeFrom_2 : decode cX1_takeFrom 2 = .ok (.getfield 18, 3) := by decide +kernel
theorem dX1_takeFrom_5 : decode cX1_takeFrom 5 = .ok (.putfield 18, 3) := by decide +kernel
theorem dX1_takeFrom_8 : decode cX1_takeFrom 8 = .ok (.iconst 0, 1) := by decide +kernel
theorem dX1_takeFrom_9 : decode cX1_takeFrom 9 = .ok (.istore_n 2, 1) := by decide +kernel
theorem dX1_takeFrom_10 : decode cX1_takeFrom 10 = .ok (.iload_n 2, 1) := by decide +kernel
theorem dX1_takeFrom_11 : decode cX1_takeFrom 11 = .ok (.bipush 6, 2) := by decide +kernel
theorem dX1_takeFrom_13 : decode cX1_takeFrom 13 = .ok (.if_icmp .ge 24, 3) := by decide +kernel
theorem dX1_takeFrom_16 : decode cX1_takeFrom 16 = .ok (.aload_n 0, 1) := by decide +kernel
theorem dX1_takeFrom_17 : decode cX1_takeFrom 17 = .ok (.getfield 11, 3) := by decide +kernel
theorem dX1_takeFrom_20 : decode cX1_takeFrom 20 = .ok (.iload_n 2, 1) := by decide +kernel
theorem dX1_takeFrom_21 : decode cX1_takeFrom 21 = .ok (.aaload, 1) := by decide +kernel
theorem dX1_takeFrom_22 : decode cX1_takeFrom 22 = .ok (.aload_n 1, 1) := by decide +kernel
theorem dX1_takeFrom_23 : decode cX1_takeFrom 23 = .ok (.getfield 11, 3) := by decide +kernel
theorem dX1_takeFrom_26 : decode cX1_takeFrom 26 = .ok (.iload_n 2, 1) := by decide +kernel
theorem dX1_takeFrom_27 : decode cX1_takeFrom 27 = .ok (.aaload, 1) := by decide +kernel
theorem dX1_takeFrom_28 : decode cX1_takeFrom 28 = .ok (.invokevirtual 25, 3) := by decide +kernel
theorem dX1_takeFrom_31 : decode cX1_takeFrom 31 = .ok (.iinc 2 1, 3) := by decide +kernel
theorem dX1_takeFrom_34 : decode cX1_takeFrom 34 = .ok (.goto (-24), 3) := by decide +kernel
theorem dX1_takeFrom_37 : decode cX1_takeFrom 37 = .ok (.return_, 1) := by decide +kernel
set_option maxRecDepth 20000 in
theorem ggX2_init_X5_init : GoodIn wsX2_init wsX5_init := goodIn_r _ [13, 14, 2, 3, 15, 16, 17, 18, 19] (by decide +kernel) (by decide +kernel)
set_option maxRecDepth 20000 in
theorem gX2_init_X5_init_n11 : GoodIn wsX2_init (wsX5_init) := ggX2_init_X5_init
theorem dX2_init_0 : decode cX2_init 0 = .ok (.aload_n 0, 1) := by decide +kernel
theorem dX2_init_1 : decode cX2_init 1 = .ok (.invokespecial 3, 3) := by decide +kernel
theorem dX2_init_4 : decode cX2_init 4 = .ok (.aload_n 0, 1) := by decide +kernel
theorem dX2_init_5 : decode cX2_init 5 = .ok (.new 9, 3) := by decide +kernel
theorem dX2_init_8 : decode cX2_init 8 = .ok (.dup, 1) := by decide +kernel
theorem dX2_init_9 : decode cX2_init 9 = .ok (.invokespecial 11, 3) := by decide +kernel
theorem dX2_init_12 : decode cX2_init 12 = .ok (.putfield 12, 3) := by decide +kernel
theorem dX2_init_15 : decode cX2_init 15 = .ok (.aload_n 0, 1) := by decide +kernel
theorem dX2_init_16 : decode cX2_init 16 = .ok (.bipush 10, 2) := by decide +kernel
theorem dX2_init_18 : decode cX2_init 18 = .ok (.putfield 18, 3) := by decide +kernel
theorem dX2_init_21 : decode cX2_init 21 = .ok (.aload_n 0, 1) := by decide +kernel
theorem dX2_init_22 : decode cX2_init 22 = .ok (.iconst 4, 1) := by decide +kernel
theorem dX2_init_23 : decode cX2_init 23 = .ok (.putfield 22, 3) := by decide +kernel
theorem dX2_init_26 : decode cX2_init 26 = .ok (.aload_n 0, 1) := by decide +kernel
theorem dX2_init_27 : decode cX2_init 27 = .ok (.bipush 8, 2) := by decide +kernel
theorem dX2_init_29 : decode cX2_init 29 = .ok (.putfield 25, 3) := by decide +kernel
theorem dX2_init_32 : decode cX2_init 32 = .ok (.aload_n 0, 1) := by decide +kernel
theorem dX2_init_33 : decode cX2_init 33 = .ok (.iconst 1, 1) := by decide +kernel
theorem dX2_init_34 : decode cX2_init 34 = .ok (.putfield 28, 3) := by decide +kernel
theorem dX2_init_37 : decode cX2_init 37 = .ok (.return_, 1) := by decide +kernel
set_option maxRecDepth 20000 in
theorem ggX2_takeFrom_X5_takeFrom : GoodIn wsX2_takeFrom wsX5_takeFrom := goodIn_r _ [15, 16, 17, 18, 19, 20, 21, 32, 33] (by decide +kernel) (by decide +kernel)
set_option maxRecDepth 20000 in
theorem gX2_takeFrom_X5_takeFrom : GoodIn wsX2_takeFrom (wsV RX2 31 RX5 yX5_takeFrom wsX5_takeFrom) := goodIn_app (goodIn_of _ (by decide +kernel)) ggX2_takeFrom_X5_takeFrom
theorem dX2_takeFrom_0 : decode cX2_takeFrom 0 = .ok (.aload_n 0, 1) := by decide +kernel
theorem dX2_takeFrom_1 : decode cX2_takeFrom 1 = .ok (.getfield 12, 3) := by decide +kernel
theorem dX2_takeFrom_4 : decode cX2_takeFrom 4 = .ok (.aload_n 1, 1) := by decide +kernel
theorem dX2_takeFrom_5 : decode cX2_takeFrom 5 = .ok (.getfield 12, 3) := by decide +kernel
theorem dX2_takeFrom_8 : decode cX2_takeFrom 8 = .ok (.invokevirtual 31, 3) := by decide +kernel
theorem dX2_takeFrom_11 : decode cX2_takeFrom 11 = .ok (.aload_n 0, 1) := by decide +kernel
theorem dX2_takeFrom_12 : decode cX2_takeFrom 12 = .ok (.aload_n 1, 1) := by decide +kernel
theorem dX2_takeFrom_13 : decode cX2_takeFrom 13 = .ok (.getfield 18, 3) := by decide +kernel
theorem dX2_takeFrom_16 : decode cX2_takeFrom 16 = .ok (.putfield 18, 3) := by decide +kernel
theorem dX2_takeFrom_19 : decode cX2_takeFrom 19 = .ok (.aload_n 0, 1) := by decide +kernel
theorem dX2_takeFrom_20 : decode cX2_takeFrom 20 = .ok (.aload_n 1, 1) := by decide +kernel
theorem dX2_takeFrom_21 : decode cX2_takeFrom 21 = .ok (.getfield 22, 3) := by decide +kernel
theorem dX2_takeFrom_24 : decode cX2_takeFrom 24 = .ok (.putfield 22, 3) := by decide +kernel
theorem dX2_takeFrom_27 : decode cX2_takeFrom 27 = .ok (.aload_n 0, 1) := by decide +kernel
theorem dX2_takeFrom_28 : decode cX2_takeFrom 28 = .ok (.aload_n 1, 1) := by decide +kernel
theorem dX2_takeFrom_29 : decode cX2_takeFrom 29 = .ok (.getfield 25, 3) := by decide +kernel
theorem dX2_takeFrom_32 : decode cX2_takeFrom 32 = .ok (.putfield 25, 3) := by decide +kernel
theorem dX2_takeFrom_35 : decode cX2_takeFrom 35 = .ok (.aload_n 0, 1) := by decide +kernel
theorem dX2_takeFrom_36 : decode cX2_takeFrom 36 = .ok (.aload_n 1, 1) := by decide +kernel
theorem dX2_takeFrom_37 : decode cX2_takeFrom 37 = .ok (.getfield 35, 3) := by decide +kernel
theorem dX2_takeFrom_40 : decode cX2_takeFrom 40 = .ok (.putfield 35, 3) := by decide +kernel
theorem dX2_takeFrom_43 : decode cX2_takeFrom 43 = .ok (.aload_n 0, 1) := by decide +kernel
theorem dX2_takeFrom_44 : decode cX2_takeFrom 44 = .ok (.aload_n 1, 1) := by decide +kernel
theorem dX2_takeFrom_45 : decode cX2_takeFrom 45 = .ok (.getfield 38, 3) := by decide +kernel
theorem dX2_takeFrom_48 : decode cX2_takeFrom 48 = .ok (.putfield 38, 3) := by decide +kernel
theorem dX2_takeFrom_51 : decode cX2_takeFrom 51 = .ok (.aload_n 0, 1) := by decide +kernel
theorem dX2_takeFrom_52 : decode cX2_takeFrom 52 = .ok (.aload_n 1, 1) := by decide +kernel
theorem dX2_takeFrom_53 : decode cX2_takeFrom 53 = .ok (.getfield 41, 3) := by decide +kernel
theorem dX2_takeFrom_56 : decode cX2_takeFrom 56 = .ok (.putfield 41, 3) := by decide +kernel
theorem dX2_takeFrom_59 : decode cX2_takeFrom 59 = .ok (.aload_n 0, 1) := by decide +kernel
theorem dX2_takeFrom_60 : decode cX2_takeFrom 60 = .ok (.aload_n 1, 1) := by decide +kernel
theorem dX2_takeFrom_61 : decode cX2_takeFrom 61 = .ok (.getfield 44, 3) := by decide +kernel
theorem dX2_takeFrom_64 : decode cX2_takeFrom 64 = .ok (.putfield 44, 3) := by decide +kernel
theorem dX2_takeFrom_67 : decode cX2_takeFrom 67 = .ok (.aload_n 0, 1) := by decide +kernel
theorem dX2_takeFrom_68 : decode cX2_takeFrom 68 = .ok (.aload_n 1, 1) := by decide +kernel
theorem dX2_takeFrom_69 : decode cX2_takeFrom 69 = .ok (.getfield 47, 3) := by decide +kernel
theorem dX2_takeFrom_72 : decode cX2_takeFrom 72 = .ok (.putfield 47, 3) := by decide +kernel
theorem dX2_takeFrom_75 : decode cX2_takeFrom 75 = .ok (.aload_n 0, 1) := by decide +kernel
theorem dX2_takeFrom_76 : decode cX2_takeFrom 76 = .ok (.aload_n 1, 1) := by decide +kernel
theorem dX2_takeFrom_77 : decode cX2_takeFrom 77 = .ok (.getfield 28, 3) := by decide +kernel
theorem dX2_takeFrom_80 : decode cX2_takeFrom 80 = .ok (.putfield 28, 3) := by decide +kernel
theorem dX2_takeFrom_83 : decode cX2_takeFrom 83 = .ok (.return_, 1) := by decide +kernel
theorem dX2_told_0 : decode cX2_told 0 = .ok (.iload_n 1, 1) := by decide +kernel
theorem dX2_told_1 : decode cX2_told 1 = .ok (.ifCond .ne 10, 3) := by decide +kernel
theorem dX2_told_4 : decode cX2_told 4 = .ok (.aload_n 0, 1) := by decide +kernel
theorem dX2_told_5 : decode cX2_told 5 = .ok (.getfield 18, 3) := by decide +kernel
theorem dX2_told_8 : decode cX2_told 8 = .ok (.goto 19, 3) := by decide +kernel
theorem dX2_told_11 : decode cX2_told 11 = .ok (.iload_n 1, 1) := by decide +kernel
theorem dX2_told_12 : decode cX2_told 12 = .ok (.iconst 1, 1) := by decide +kernel
theorem dX2_told_13 : decode cX2_told 13 = .ok (.if_icmp .ne 10, 3) := by decide +kernel
theorem dX2_told_16 : decode cX2_told 16 = .ok (.aload_n 0, 1) := by decide +kernel
theorem dX2_told_17 : decode cX2_told 17 = .ok (.getfield 22, 3) := by decide +kernel
theorem dX2_told_20 : decode cX2_told 20 = .ok (.goto 7, 3) := by decide +kernel
theorem dX2_told_23 : decode cX2_told 23 = .ok (.aload_n 0, 1) := by decide +kernel
theorem dX2_told_24 : decode cX2_told 24 = .ok (.getfield 25, 3) := by decide +kernel
theorem dX2_told_27 : decode cX2_told 27 = .ok (.ireturn, 1) := by decide +kernel
theorem dX2_putTold_0 : decode cX2_putTold 0 = .ok (.iload_n 1, 1) := by decide +kernel
theorem dX2_putTold_1 : decode cX2_putTold 1 = .ok (.ifCond .ne 11, 3) := by decide +kernel
theorem dX2_putTold_4 : decode cX2_putTold 4 = .ok (.aload_n 0, 1) := by decide +kernel
theorem dX2_putTold_5 : decode cX2_putTold 5 = .ok (.iload_n 2, 1) := by decide +kernel
theorem dX2_putTold_6 : decode cX2_putTold 6 = .ok (.putfield 18, 3) := by decide +kernel
theorem dX2_putTold_9 : decode cX2_putTold 9 = .ok (.goto 21, 3) := by decide +kernel
theorem dX2_putTold_12 : decode cX2_putTold 12 = .ok (.iload_n 1, 1) := by decide +kernel
theorem dX2_putTold_13 : decode cX2_putTold 13 = .ok (.iconst 1, 1) := by decide +kernel
theorem dX2_putTold_14 : decode cX2_putTold 14 = .ok (.if_icmp .ne 11, 3) := by decide +kernel
theorem dX2_putTold_17 : decode cX2_putTold 17 = .ok (.aload_n 0, 1) := by decide +kernel
theorem dX2_putTold_18 : decode cX2_putTold 18 = .ok (.iload_n 2, 1) := by decide +kernel
theorem dX2_putTold_19 : decode cX2_putTold 19 = .ok (.putfield 22, 3) := by decide +kernel
theorem dX2_putTold_22 : decode cX2_putTold 22 = .ok (.goto 8, 3) := by decide +kernel
theorem dX2_putTold_25 : decode cX2_putTold 25 = .ok (.aload_n 0, 1) := by decide +kernel
theorem dX2_putTold_26 : decode cX2_putTold 26 = .ok (.iload_n 2, 1) := by decide +kernel
theorem dX2_putTold_27 : decode cX2_putTold 27 = .ok (.putfield 25, 3) := by decide +kernel
theorem dX2_putTold_30 : decode cX2_putTold 30 = .ok (.return_, 1) := by decide +kernel
theorem dX2_nextDraw_0 : decode cX2_nextDraw 0 = .ok (.aload_n 0, 1) := by decide +kernel
theorem dX2_nextDraw_1 : decode cX2_nextDraw 1 = .ok (.aload_n 0, 1) := by decide +kernel
theorem dX2_nextDraw_2 : decode cX2_nextDraw 2 = .ok (.getfield 28, 3) := by decide +kernel
theorem dX2_nextDraw_5 : decode cX2_nextDraw 5 = .ok (.ldc 50, 2) := by decide +kernel
theorem dX2_nextDraw_7 : decode cX2_nextDraw 7 = .ok (.imul, 1) := by decide +kernel
theorem dX2_nextDraw_8 : decode cX2_nextDraw 8 = .ok (.sipush 12345, 3) := by decide +kernel
theorem dX2_nextDraw_11 : decode cX2_nextDraw 11 = .ok (.iadd, 1) := by decide +kernel
theorem dX2_nextDraw_12 : decode cX2_nextDraw 12 = .ok (.ldc 51, 2) := by decide +kernel
theorem dX2_nextDraw_14 : decode cX2_nextDraw 14 = .ok (.iand, 1) := by decide +kernel
theorem dX2_nextDraw_15 : decode cX2_nextDraw 15 = .ok (.putfield 28, 3) := by decide +kernel
theorem dX2_nextDraw_18 : decode cX2_nextDraw 18 = .ok (.aload_n 0, 1) := by decide +kernel
theorem dX2_nextDraw_19 : decode cX2_nextDraw 19 = .ok (.getfield 28, 3) := by decide +kernel
theorem dX2_nextDraw_22 : decode cX2_nextDraw 22 = .ok (.ldc 52, 2) := by decide +kernel
theorem dX2_nextDraw_24 : decode cX2_nextDraw 24 = .ok (.idiv, 1) := by decide +kernel
theorem dX2_nextDraw_25 : decode cX2_nextDraw 25 = .ok (.ireturn, 1) := by decide +kernel
set_option maxRecDepth 20000 in
theorem ggX2_runPeriod_X2_nextDraw : GoodIn wsX2_runPeriod wsX2_nextDraw := goodIn_r _ [14, 15, 16, 17, 18, 31, 32, 33, 34, 35, 36, 37, 38, 39, 40] (by decide +kernel) (by decide +kernel)
set_option maxRecDepth 20000 in
theorem gX2_runPeriod_X2_nextDraw : GoodIn wsX2_runPeriod (wsV RX2 53 RX2 yX2_nextDraw wsX2_nextDraw) := goodIn_app (goodIn_of _ (by decide +kernel)) ggX2_runPeriod_X2_nextDraw
set_option maxRecDepth 20000 in
theorem ggX2_runPeriod_X5_left : GoodIn wsX2_runPeriod wsX5_left := goodIn_r _ [23, 24, 25, 26, 27, 22, 28, 29, 41, 42] (by decide +kernel) (by decide +kernel)
set_option maxRecDepth 20000 in
theorem gX2_runPeriod_X5_left : GoodIn wsX2_runPeriod (wsV RX2 57 RX5 yX5_left wsX5_left) := goodIn_app (goodIn_of _ (by decide +kernel)) ggX2_runPeriod_X5_left
set_option maxRecDepth 20000 in
theorem ggX2_runPeriod_X5_weightOf : GoodIn wsX2_runPeriod wsX5_weightOf := goodIn_r _ [28, 24, 29, 41, 42] (by decide +kernel) (by decide +kernel)
set_option maxRecDepth 20000 in
theorem gX2_runPeriod_X5_weightOf : GoodIn wsX2_runPeriod (wsV RX2 61 RX5 yX5_weightOf wsX5_weightOf) := goodIn_app (goodIn_of _ (by decide +kernel)) ggX2_runPeriod_X5_weightOf
theorem dX2_runPeriod_0 : decode cX2_runPeriod 0 = .ok (.aload_n 0, 1) := by decide +kernel
theorem dX2_runPeriod_1 : decode cX2_runPeriod 1 = .ok (.invokevirtual 53, 3) := by decide +kernel
theorem dX2_runPeriod_4 : decode cX2_runPeriod 4 = .ok (.istore_n 1, 1) := by decide +kernel
theorem dX2_runPeriod_5 : decode cX2_runPeriod 5 = .ok (.aload_n 0, 1) := by decide +kernel
theorem dX2_runPeriod_6 : decode cX2_runPeriod 6 = .ok (.getfield 12, 3) := by decide +kernel
theorem dX2_runPeriod_9 : decode cX2_runPeriod 9 = .ok (.aload_n 0, 1) := by decide +kernel
theorem dX2_runPeriod_10 : decode cX2_runPeriod 10 = .ok (.getfield 35, 3) := by decide +kernel
theorem dX2_runPeriod_13 : decode cX2_runPeriod 13 = .ok (.invokevirtual 57, 3) := by decide +kernel
theorem dX2_runPeriod_16 : decode cX2_runPeriod 16 = .ok (.istore_n 2, 1) := by decide +kernel
theorem dX2_runPeriod_17 : decode cX2_runPeriod 17 = .ok (.aload_n 0, 1) := by decide +kernel
theorem dX2_runPeriod_18 : decode cX2_runPeriod 18 = .ok (.dup, 1) := by decide +kernel
theorem dX2_runPeriod_19 : decode cX2_runPeriod 19 = .ok (.getfield 44, 3) := by decide +kernel
theorem dX2_runPeriod_22 : decode cX2_runPeriod 22 = .ok (.iconst 1, 1) := by decide +kernel
theorem dX2_runPeriod_23 : decode cX2_runPeriod 23 = .ok (.iadd, 1) := by decide +kernel
theorem dX2_runPeriod_24 : decode cX2_runPeriod 24 = .ok (.putfield 44, 3) := by decide +kernel
theorem dX2_runPeriod_27 : decode cX2_runPeriod 27 = .ok (.iload_n 2, 1) := by decide +kernel
theorem dX2_runPeriod_28 : decode cX2_runPeriod 28 = .ok (.ifCond .le 22, 3) := by decide +kernel
theorem dX2_runPeriod_31 : decode cX2_runPeriod 31 = .ok (.iload_n 1, 1) := by decide +kernel
theorem dX2_runPeriod_32 : decode cX2_runPeriod 32 = .ok (.iload_n 2, 1) := by decide +kernel
theorem dX2_runPeriod_33 : decode cX2_runPeriod 33 = .ok (.irem, 1) := by decide +kernel
theorem dX2_runPeriod_34 : decode cX2_runPeriod 34 = .ok (.aload_n 0, 1) := by decide +kernel
theorem dX2_runPeriod_35 : decode cX2_runPeriod 35 = .ok (.getfield 12, 3) := by decide +kernel
theorem dX2_runPeriod_38 : decode cX2_runPeriod 38 = .ok (.aload_n 0, 1) := by decide +kernel
theorem dX2_runPeriod_39 : decode cX2_runPeriod 39 = .ok (.getfield 35, 3) := by decide +kernel
theorem dX2_runPeriod_42 : decode cX2_runPeriod 42 = .ok (.iconst 1, 1) := by decide +kernel
theorem dX2_runPeriod_43 : decode cX2_runPeriod 43 = .ok (.iadd, 1) := by decide +kernel
theorem dX2_runPeriod_44 : decode cX2_runPeriod 44 = .ok (.invokevirtual 61, 3) := by decide +kernel
theorem dX2_runPeriod_47 : decode cX2_runPeriod 47 = .ok (.if_icmp .ge 32, 3) := by decide +kernel
theorem dX2_runPeriod_50 : decode cX2_runPeriod 50 = .ok (.aload_n 0, 1) := by decide +kernel
theorem dX2_runPeriod_51 : decode cX2_runPeriod 51 = .ok (.dup, 1) := by decide +kernel
theorem dX2_runPeriod_52 : decode cX2_runPeriod 52 = .ok (.getfield 38, 3) := by decide +kernel
theorem dX2_runPeriod_55 : decode cX2_runPeriod 55 = .ok (.iconst 1, 1) := by decide +kernel
theorem dX2_runPeriod_56 : decode cX2_runPeriod 56 = .ok (.iadd, 1) := by decide +kernel
theorem dX2_runPeriod_57 : decode cX2_runPeriod 57 = .ok (.putfield 38, 3) := by decide +kernel
theorem dX2_runPeriod_60 : decode cX2_runPeriod 60 = .ok (.aload_n 0, 1) := by decide +kernel
theorem dX2_runPeriod_61 : decode cX2_runPeriod 61 = .ok (.dup, 1) := by decide +kernel
theorem dX2_runPeriod_62 : decode cX2_runPeriod 62 = .ok (.getfield 47, 3) := by decide +kernel
theorem dX2_runPeriod_65 : decode cX2_runPeriod 65 = .ok (.aload_n 0, 1) := by decide +kernel
theorem dX2_runPeriod_66 : decode cX2_runPeriod 66 = .ok (.getfield 18, 3) := by decide +kernel
theorem dX2_runPeriod_69 : decode cX2_runPeriod 69 = .ok (.iadd, 1) := by decide +kernel
theorem dX2_runPeriod_70 : decode cX2_runPeriod 70 = .ok (.putfield 47, 3) := by decide +kernel
theorem dX2_runPeriod_73 : decode cX2_runPeriod 73 = .ok (.aload_n 0, 1) := by decide +kernel
theorem dX2_runPeriod_74 : decode cX2_runPeriod 74 = .ok (.iconst 0, 1) := by decide +kernel
theorem dX2_runPeriod_75 : decode cX2_runPeriod 75 = .ok (.putfield 35, 3) := by decide +kernel
theorem dX2_runPeriod_78 : decode cX2_runPeriod 78 = .ok (.return_, 1) := by decide +kernel
theorem dX2_runPeriod_79 : decode cX2_runPeriod 79 = .ok (.aload_n 0, 1) := by decide +kernel
theorem dX2_runPeriod_80 : decode cX2_runPeriod 80 = .ok (.dup, 1) := by decide +kernel
theorem dX2_runPeriod_81 : decode cX2_runPeriod 81 = .ok (.getfield 35, 3) := by decide +kernel
theorem dX2_runPeriod_84 : decode cX2_runPeriod 84 = .ok (.iconst 1, 1) := by decide +kernel
theorem dX2_runPeriod_85 : decode cX2_runPeriod 85 = .ok (.iadd, 1) := by decide +kernel
theorem dX2_runPeriod_86 : decode cX2_runPeriod 86 = .ok (.putfield 35, 3) := by decide +kernel
theorem dX2_runPeriod_89 : decode cX2_runPeriod 89 = .ok (.aload_n 0, 1) := by decide +kernel
theorem dX2_runPeriod_90 : decode cX2_runPeriod 90 = .ok (.getfield 35, 3) := by decide +kernel
theorem dX2_runPeriod_93 : decode cX2_runPeriod 93 = .ok (.aload_n 0, 1) := by decide +kernel
theorem dX2_runPeriod_94 : decode cX2_runPeriod 94 = .ok (.getfield 25, 3) := by decide +kernel
theorem dX2_runPeriod_97 : decode cX2_runPeriod 97 = .ok (.if_icmp .lt 31, 3) := by decide +kernel
theorem dX2_runPeriod_100 : decode cX2_runPeriod 100 = .ok (.aload_n 0, 1) := by decide +kernel
theorem dX2_runPeriod_101 : decode cX2_runPeriod 101 = .ok (.dup, 1) := by decide +kernel
theorem dX2_runPeriod_102 : decode cX2_runPeriod 102 = .ok (.getfield 41, 3) := by decide +kernel
theorem dX2_runPeriod_105 : decode cX2_runPeriod 105 = .ok (.iconst 1, 1) := by decide +kernel
theorem dX2_runPeriod_106 : decode cX2_runPeriod 106 = .ok (.iadd, 1) := by decide +kernel
theorem dX2_runPeriod_107 : decode cX2_runPeriod 107 = .ok (.putfield 41, 3) := by decide +kernel
theorem dX2_runPeriod_110 : decode cX2_runPeriod 110 = .ok (.aload_n 0, 1) := by decide +kernel
theorem dX2_runPeriod_111 : decode cX2_runPeriod 111 = .ok (.dup, 1) := by decide +kernel
theorem dX2_runPeriod_112 : decode cX2_runPeriod 112 = .ok (.getfield 47, 3) := by decide +kernel
theorem dX2_runPeriod_115 : decode cX2_runPeriod 115 = .ok (.aload_n 0, 1) := by decide +kernel
theorem dX2_runPeriod_116 : decode cX2_runPeriod 116 = .ok (.getfield 22, 3) := by decide +kernel
theorem dX2_runPeriod_119 : decode cX2_runPeriod 119 = .ok (.iadd, 1) := by decide +kernel
theorem dX2_runPeriod_120 : decode cX2_runPeriod 120 = .ok (.putfield 47, 3) := by decide +kernel
theorem dX2_runPeriod_123 : decode cX2_runPeriod 123 = .ok (.aload_n 0, 1) := by decide +kernel
theorem dX2_runPeriod_124 : decode cX2_runPeriod 124 = .ok (.iconst 0, 1) := by decide +kernel
theorem dX2_runPeriod_125 : decode cX2_runPeriod 125 = .ok (.putfield 35, 3) := by decide +kernel
theorem dX2_runPeriod_128 : decode cX2_runPeriod 128 = .ok (.return_, 1) := by decide +kernel
set_option maxRecDepth 20000 in
theorem ggX2_turn_X2_nextDraw : GoodIn wsX2_turn wsX2_nextDraw := goodIn_r _ [8, 9, 10, 11, 12, 36, 37, 38, 39, 40, 41, 42, 43, 44, 45] (by decide +kernel) (by decide +kernel)
set_option maxRecDepth 20000 in
theorem gX2_turn_X2_nextDraw : GoodIn wsX2_turn (wsV RX2 53 RX2 yX2_nextDraw wsX2_nextDraw) := goodIn_app (goodIn_of _ (by decide +kernel)) ggX2_turn_X2_nextDraw
set_option maxRecDepth 20000 in
theorem ggX2_turn_X5_mayHold : GoodIn wsX2_turn wsX5_mayHold := goodIn_r _ [17, 18, 19, 20, 21, 16, 22, 23, 24, 25, 26, 27, 28, 29, 30, 31, 46, 47] (by decide +kernel) (by decide +kernel)
set_option maxRecDepth 20000 in
theorem gX2_turn_X5_mayHold : GoodIn wsX2_turn (wsV RX2 67 RX5 yX5_mayHold wsX5_mayHold) := goodIn_app (goodIn_of _ (by decide +kernel)) ggX2_turn_X5_mayHold
set_option maxRecDepth 20000 in
theorem ggX2_turn_X5_put : GoodIn wsX2_turn wsX5_put := goodIn_r _ [35, 31, 46, 47] (by decide +kernel) (by decide +kernel)
set_option maxRecDepth 20000 in
theorem gX2_turn_X5_put : GoodIn wsX2_turn (wsV RX2 71 RX5 yX5_put wsX5_put) := goodIn_app (goodIn_of _ (by decide +kernel)) ggX2_turn_X5_put
theorem dX2_turn_0 : decode cX2_turn 0 = .ok (.aload_n 0, 1) := by decide +kernel
theorem dX2_turn_1 : decode cX2_turn 1 = .ok (.invokevirtual 53, 3) := by decide +kernel
theorem dX2_turn_4 : decode cX2_turn 4 = .ok (.istore_n 1, 1) := by decide +kernel
theorem dX2_turn_5 : decode cX2_turn 5 = .ok (.aload_n 0, 1) := by decide +kernel
theorem dX2_turn_6 : decode cX2_turn 6 = .ok (.getfield 12, 3) := by decide +kernel
theorem dX2_turn_9 : decode cX2_turn 9 = .ok (.getfield 64, 3) := by decide +kernel
theorem dX2_turn_12 : decode cX2_turn 12 = .ok (.ifCond .le 17, 3) := by decide +kernel
theorem dX2_turn_15 : decode cX2_turn 15 = .ok (.iload_n 1, 1) := by decide +kernel
theorem dX2_turn_16 : decode cX2_turn 16 = .ok (.aload_n 0, 1) := by decide +kernel
theorem dX2_turn_17 : decode cX2_turn 17 = .ok (.getfield 12, 3) := by decide +kernel
theorem dX2_turn_20 : decode cX2_turn 20 = .ok (.getfield 64, 3) := by decide +kernel
theorem dX2_turn_23 : decode cX2_turn 23 = .ok (.irem, 1) := by decide +kernel
theorem dX2_turn_24 : decode cX2_turn 24 = .ok (.iconst 1, 1) := by decide +kernel
theorem dX2_turn_25 : decode cX2_turn 25 = .ok (.iadd, 1) := by decide +kernel
theorem dX2_turn_26 : decode cX2_turn 26 = .ok (.goto 4, 3) := by decide +kernel
theorem dX2_turn_29 : decode cX2_turn 29 = .ok (.iconst 1, 1) := by decide +kernel
theorem dX2_turn_30 : decode cX2_turn 30 = .ok (.istore_n 2, 1) := by decide +kernel
theorem dX2_turn_31 : decode cX2_turn 31 = .ok (.iload_n 1, 1) := by decide +kernel
theorem dX2_turn_32 : decode cX2_turn 32 = .ok (.bipush 8, 2) := by decide +kernel
theorem dX2_turn_34 : decode cX2_turn 34 = .ok (.idiv, 1) := by decide +kernel
theorem dX2_turn_35 : decode cX2_turn 35 = .ok (.bipush 10, 2) := by decide +kernel
theorem dX2_turn_37 : decode cX2_turn 37 = .ok (.irem, 1) := by decide +kernel
theorem dX2_turn_38 : decode cX2_turn 38 = .ok (.istore_n 3, 1) := by decide +kernel
theorem dX2_turn_39 : decode cX2_turn 39 = .ok (.aload_n 0, 1) := by decide +kernel
theorem dX2_turn_40 : decode cX2_turn 40 = .ok (.getfield 12, 3) := by decide +kernel
theorem dX2_turn_43 : decode cX2_turn 43 = .ok (.iload_n 2, 1) := by decide +kernel
theorem dX2_turn_44 : decode cX2_turn 44 = .ok (.iload_n 3, 1) := by decide +kernel
theorem dX2_turn_45 : decode cX2_turn 45 = .ok (.invokevirtual 67, 3) := by decide +kernel
theorem dX2_turn_48 : decode cX2_turn 48 = .ok (.ifCond .eq 17, 3) := by decide +kernel
theorem dX2_turn_51 : decode cX2_turn 51 = .ok (.aload_n 0, 1) := by decide +kernel
theorem dX2_turn_52 : decode cX2_turn 52 = .ok (.getfield 12, 3) := by decide +kernel
theorem dX2_turn_55 : decode cX2_turn 55 = .ok (.iload_n 2, 1) := by decide +kernel
theorem dX2_turn_56 : decode cX2_turn 56 = .ok (.iload_n 3, 1) := by decide +kernel
theorem dX2_turn_57 : decode cX2_turn 57 = .ok (.invokevirtual 71, 3) := by decide +kernel
theorem dX2_turn_60 : decode cX2_turn 60 = .ok (.aload_n 0, 1) := by decide +kernel
theorem dX2_turn_61 : decode cX2_turn 61 = .ok (.iconst 0, 1) := by decide +kernel
theorem dX2_turn_62 : decode cX2_turn 62 = .ok (.putfield 35, 3) := by decide +kernel
theorem dX2_turn_65 : decode cX2_turn 65 = .ok (.return_, 1) := by decide +kernel
theorem dX3_init_0 : decode cX3_init 0 = .ok (.aload_n 0, 1) := by decide +kernel
theorem dX3_init_1 : decode cX3_init 1 = .ok (.invokespecial 3, 3) := by decide +kernel
theorem dX3_init_4 : decode cX3_init 4 = .ok (.aload_n 0, 1) := by decide +kernel
theorem dX3_init_5 : decode cX3_init 5 = .ok (.lconst 1, 1) := by decide +kernel
theorem dX3_init_6 : decode cX3_init 6 = .ok (.putfield 9, 3) := by decide +kernel
theorem dX3_init_9 : decode cX3_init 9 = .ok (.aload_n 0, 1) := by decide +kernel
theorem dX3_init_10 : decode cX3_init 10 = .ok (.bipush 11, 2) := by decide +kernel
theorem dX3_init_12 : decode cX3_init 12 = .ok (.newarray .long, 2) := by decide +kernel
theorem dX3_init_14 : decode cX3_init 14 = .ok (.putfield 15, 3) := by decide +kernel
theorem dX3_init_17 : decode cX3_init 17 = .ok (.return_, 1) := by decide +kernel
set_option maxRecDepth 20000 in
theorem ggX3_reckon_X5_all : GoodIn wsX3_reckon wsX5_all := goodIn_r _ [8, 9, 10, 11, 7, 12, 13, 14, 15, 16, 17, 18, 25, 26] (by decide +kernel) (by decide +kernel)
set_option maxRecDepth 20000 in
theorem gX3_reckon_X5_all : GoodIn wsX3_reckon (wsV RX3 19 RX5 yX5_all wsX5_all) := goodIn_app (goodIn_of _ (by decide +kernel)) ggX3_reckon_X5_all
set_option maxRecDepth 20000 in
theorem ggX3_reckon_X7_power : GoodIn wsX3_reckon wsX7_power := goodIn_r _ [21] (by decide +kernel) (by decide +kernel)
set_option maxRecDepth 20000 in
theorem gX3_reckon_X7_power_n25 : GoodIn wsX3_reckon (wsX7_power) := ggX3_reckon_X7_power
set_option maxRecDepth 20000 in
theorem ggX3_reckon_X5_weightOf : GoodIn wsX3_reckon wsX5_weightOf := goodIn_r _ [17, 13, 18, 25, 26] (by decide +kernel) (by decide +kernel)
set_option maxRecDepth 20000 in
theorem gX3_reckon_X5_weightOf : GoodIn wsX3_reckon (wsV RX3 33 RX5 yX5_weightOf wsX5_weightOf) := goodIn_app (goodIn_of _ (by decide +kernel)) ggX3_reckon_X5_weightOf
theorem dX3_reckon_0 : decode cX3_reckon 0 = .ok (.aload_n 1, 1) := by decide +kernel
theorem dX3_reckon_1 : decode cX3_reckon 1 = .ok (.invokevirtual 19, 3) := by decide +kernel
theorem dX3_reckon_4 : decode cX3_reckon 4 = .ok (.i2l, 1) := by decide +kernel
theorem dX3_reckon_5 : decode cX3_reckon 5 = .ok (.lstore_n 2, 1) := by decide +kernel
theorem dX3_reckon_6 : decode cX3_reckon 6 = .ok (.aload_n 0, 1) := by decide +kernel
theorem dX3_reckon_7 : decode cX3_reckon 7 = .ok (.lload_n 2, 1) := by decide +kernel
theorem dX3_reckon_8 : decode cX3_reckon 8 = .ok (.bipush 10, 2) := by decide +kernel
theorem dX3_reckon_10 : decode cX3_reckon 10 = .ok (.invokestatic 25, 3) := by decide +kernel
theorem dX3_reckon_13 : decode cX3_reckon 13 = .ok (.putfield 9, 3) := by decide +kernel
theorem dX3_reckon_16 : decode cX3_reckon 16 = .ok (.iconst 1, 1) := by decide +kernel
theorem dX3_reckon_17 : decode cX3_reckon 17 = .ok (.istore 4, 2) := by decide +kernel
theorem dX3_reckon_19 : decode cX3_reckon 19 = .ok (.iload 4, 2) := by decide +kernel
theorem dX3_reckon_21 : decode cX3_reckon 21 = .ok (.bipush 10, 2) := by decide +kernel
theorem dX3_reckon_23 : decode cX3_reckon 23 = .ok (.if_icmp .gt 83, 3) := by decide +kernel
theorem dX3_reckon_26 : decode cX3_reckon 26 = .ok (.aload_n 0, 1) := by decide +kernel
theorem dX3_reckon_27 : decode cX3_reckon 27 = .ok (.getfield 15, 3) := by decide +kernel
theorem dX3_reckon_30 : decode cX3_reckon 30 = .ok (.iload 4, 2) := by decide +kernel
theorem dX3_reckon_32 : decode cX3_reckon 32 = .ok (.lconst 0, 1) := by decide +kernel
theorem dX3_reckon_33 : decode cX3_reckon 33 = .ok (.lastore, 1) := by decide +kernel
theorem dX3_reckon_34 : decode cX3_reckon 34 = .ok (.iconst 1, 1) := by decide +kernel
theorem dX3_reckon_35 : decode cX3_reckon 35 = .ok (.istore 5, 2) := by decide +kernel
theorem dX3_reckon_37 : decode cX3_reckon 37 = .ok (.iload 5, 2) := by decide +kernel
theorem dX3_reckon_39 : decode cX3_reckon 39 = .ok (.iload 4, 2) := by decide +kernel
theorem dX3_reckon_41 : decode cX3_reckon 41 = .ok (.if_icmp .gt 59, 3) := by decide +kernel
theorem dX3_reckon_44 : decode cX3_reckon 44 = .ok (.iload 5, 2) := by decide +kernel
theorem dX3_reckon_46 : decode cX3_reckon 46 = .ok (.aload_n 1, 1) := by decide +kernel
theorem dX3_reckon_47 : decode cX3_reckon 47 = .ok (.getfield 29, 3) := by decide +kernel
theorem dX3_reckon_50 : decode cX3_reckon 50 = .ok (.if_icmp .gt 50, 3) := by decide +kernel
theorem dX3_reckon_53 : decode cX3_reckon 53 = .ok (.lload_n 2, 1) := by decide +kernel
theorem dX3_reckon_54 : decode cX3_reckon 54 = .ok (.lconst 0, 1) := by decide +kernel
theorem dX3_reckon_55 : decode cX3_reckon 55 = .ok (.lcmp, 1) := by decide +kernel
theorem dX3_reckon_56 : decode cX3_reckon 56 = .ok (.ifCond .le 44, 3) := by decide +kernel
theorem dX3_reckon_59 : decode cX3_reckon 59 = .ok (.aload_n 0, 1) := by decide +kernel
theorem dX3_reckon_60 : decode cX3_reckon 60 = .ok (.getfield 15, 3) := by decide +kernel
theorem dX3_reckon_63 : decode cX3_reckon 63 = .ok (.iload 4, 2) := by decide +kernel
theorem dX3_reckon_65 : decode cX3_reckon 65 = .ok (.dup2, 1) := by decide +kernel
theorem dX3_reckon_66 : decode cX3_reckon 66 = .ok (.laload, 1) := by decide +kernel
theorem dX3_reckon_67 : decode cX3_reckon 67 = .ok (.aload_n 1, 1) := by decide +kernel
theorem dX3_reckon_68 : decode cX3_reckon 68 = .ok (.iload 5, 2) := by decide +kernel
theorem dX3_reckon_70 : decode cX3_reckon 70 = .ok (.invokevirtual 33, 3) := by decide +kernel
theorem dX3_reckon_73 : decode cX3_reckon 73 = .ok (.i2l, 1) := by decide +kernel
theorem dX3_reckon_74 : decode cX3_reckon 74 = .ok (.aload_n 0, 1) := by decide +kernel
theorem dX3_reckon_75 : decode cX3_reckon 75 = .ok (.getfield 9, 3) := by decide +kernel
theorem dX3_reckon_78 : decode cX3_reckon 78 = .ok (.aload_n 0, 1) := by decide +kernel
theorem dX3_reckon_79 : decode cX3_reckon 79 = .ok (.getfield 15, 3) := by decide +kernel
theorem dX3_reckon_82 : decode cX3_reckon 82 = .ok (.iload 4, 2) := by decide +kernel
theorem dX3_reckon_84 : decode cX3_reckon 84 = .ok (.iload 5, 2) := by decide +kernel
theorem dX3_reckon_86 : decode cX3_reckon 86 = .ok (.isub, 1) := by decide +kernel
theorem dX3_reckon_87 : decode cX3_reckon 87 = .ok (.laload, 1) := by decide +kernel
theorem dX3_reckon_88 : decode cX3_reckon 88 = .ok (.ladd, 1) := by decide +kernel
theorem dX3_reckon_89 : decode cX3_reckon 89 = .ok (.lload_n 2, 1) := by decide +kernel
theorem dX3_reckon_90 : decode cX3_reckon 90 = .ok (.ldiv, 1) := by decide +kernel
theorem dX3_reckon_91 : decode cX3_reckon 91 = .ok (.lmul, 1) := by decide +kernel
theorem dX3_reckon_92 : decode cX3_reckon 92 = .ok (.ladd, 1) := by decide +kernel
theorem dX3_reckon_93 : decode cX3_reckon 93 = .ok (.lastore, 1) := by decide +kernel
theorem dX3_reckon_94 : decode cX3_reckon 94 = .ok (.iinc 5 1, 3) := by decide +kernel
theorem dX3_reckon_97 : decode cX3_reckon 97 = .ok (.goto (-60), 3) := by decide +kernel
theorem dX3_reckon_100 : decode cX3_reckon 100 = .ok (.iinc 4 1, 3) := by decide +kernel
theorem dX3_reckon_103 : decode cX3_reckon 103 = .ok (.goto (-84), 3) := by decide +kernel
theorem dX3_reckon_106 : decode cX3_reckon 106 = .ok (.return_, 1) := by decide +kernel
theorem dX3_expectedUpTo_0 : decode cX3_expectedUpTo 0 = .ok (.iload_n 1, 1) := by decide +kernel
theorem dX3_expectedUpTo_1 : decode cX3_expectedUpTo 1 = .ok (.ifCond .lt 21, 3) := by decide +kernel
theorem dX3_expectedUpTo_4 : decode cX3_expectedUpTo 4 = .ok (.iload_n 1, 1) := by decide +kernel
theorem dX3_expectedUpTo_5 : decode cX3_expectedUpTo 5 = .ok (.aload_n 0, 1) := by decide +kernel
theorem dX3_expectedUpTo_6 : decode cX3_expectedUpTo 6 = .ok (.getfield 15, 3) := by decide +kernel
theorem dX3_expectedUpTo_9 : decode cX3_expectedUpTo 9 = .ok (.arraylength, 1) := by decide +kernel
theorem dX3_expectedUpTo_10 : decode cX3_expectedUpTo 10 = .ok (.if_icmp .ge 12, 3) := by decide +kernel
theorem dX3_expectedUpTo_13 : decode cX3_expectedUpTo 13 = .ok (.aload_n 0, 1) := by decide +kernel
theorem dX3_expectedUpTo_14 : decode cX3_expectedUpTo 14 = .ok (.getfield 15, 3) := by decide +kernel
theorem dX3_expectedUpTo_17 : decode cX3_expectedUpTo 17 = .ok (.iload_n 1, 1) := by decide +kernel
theorem dX3_expectedUpTo_18 : decode cX3_expectedUpTo 18 = .ok (.laload, 1) := by decide +kernel
theorem dX3_expectedUpTo_19 : decode cX3_expectedUpTo 19 = .ok (.goto 4, 3) := by decide +kernel
theorem dX3_expectedUpTo_22 : decode cX3_expectedUpTo 22 = .ok (.lconst 0, 1) := by decide +kernel
theorem dX3_expectedUpTo_23 : decode cX3_expectedUpTo 23 = .ok (.lreturn, 1) := by decide +kernel
set_option maxRecDepth 20000 in
theorem ggX3_blockCost_X3_expectedUpTo : GoodIn wsX3_blockCost wsX3_expectedUpTo := goodIn_r _ [8, 9, 20, 21] (by decide +kernel) (by decide +kernel)
set_option maxRecDepth 20000 in
theorem gX3_blockCost_X3_expectedUpTo : GoodIn wsX3_blockCost (wsV RX3 42 RX3 yX3_expectedUpTo wsX3_expectedUpTo) := goodIn_app (goodIn_of _ (by decide +kernel)) ggX3_blockCost_X3_expectedUpTo
theorem dX3_blockCost_0 : decode cX3_blockCost 0 = .ok (.aload_n 2, 1) := by decide +kernel
theorem dX3_blockCost_1 : decode cX3_blockCost 1 = .ok (.getfield 37, 3) := by decide +kernel
theorem dX3_blockCost_4 : decode cX3_blockCost 4 = .ok (.i2l, 1) := by decide +kernel
theorem dX3_blockCost_5 : decode cX3_blockCost 5 = .ok (.aload_n 0, 1) := by decide +kernel
theorem dX3_blockCost_6 : decode cX3_blockCost 6 = .ok (.iload_n 1, 1) := by decide +kernel
theorem dX3_blockCost_7 : decode cX3_blockCost 7 = .ok (.invokevirtual 42, 3) := by decide +kernel
theorem dX3_blockCost_10 : decode cX3_blockCost 10 = .ok (.lmul, 1) := by decide +kernel
theorem dX3_blockCost_11 : decode cX3_blockCost 11 = .ok (.aload_n 2, 1) := by decide +kernel
theorem dX3_blockCost_12 : decode cX3_blockCost 12 = .ok (.getfield 46, 3) := by decide +kernel
theorem dX3_blockCost_15 : decode cX3_blockCost 15 = .ok (.i2l, 1) := by decide +kernel
theorem dX3_blockCost_16 : decode cX3_blockCost 16 = .ok (.aload_n 0, 1) := by decide +kernel
theorem dX3_blockCost_17 : decode cX3_blockCost 17 = .ok (.getfield 9, 3) := by decide +kernel
theorem dX3_blockCost_20 : decode cX3_blockCost 20 = .ok (.lmul, 1) := by decide +kernel
theorem dX3_blockCost_21 : decode cX3_blockCost 21 = .ok (.ladd, 1) := by decide +kernel
theorem dX3_blockCost_22 : decode cX3_blockCost 22 = .ok (.lreturn, 1) := by decide +kernel
set_option maxRecDepth 20000 in
theorem ggX3_bestBlock_X3_reckon : GoodIn wsX3_bestBlock wsX3_reckon := goodIn_r _ [6, 7, 8, 9, 10, 11, 12, 13, 14, 15, 16, 17, 18, 19, 20, 21, 22, 23, 24, 25, 26, 27, 28, 49, 50, 51, 52] (by decide +kernel) (by decide +kernel)
set_option maxRecDepth 20000 in
theorem gX3_bestBlock_X3_reckon : GoodIn wsX3_bestBlock (wsV RX3 53 RX3 yX3_reckon wsX3_reckon) := goodIn_app (goodIn_of _ (by decide +kernel)) ggX3_bestBlock_X3_reckon
set_option maxRecDepth 20000 in
theorem ggX3_bestBlock_X3_blockCost : GoodIn wsX3_bestBlock wsX3_blockCost := goodIn_r _ [32, 33, 34, 7, 35, 36, 37, 5, 38, 8, 39, 40, 41, 42, 43, 44, 45, 46, 47, 48, 49, 50] (by decide +kernel) (by decide +kernel)
set_option maxRecDepth 20000 in
theorem gX3_bestBlock_X3_blockCost : GoodIn wsX3_bestBlock (wsV RX3 57 RX3 yX3_blockCost wsX3_blockCost) := goodIn_app (goodIn_of _ (by decide +kernel)) ggX3_bestBlock_X3_blockCost
theorem dX3_bestBlock_0 : decode cX3_bestBlock 0 = .ok (.aload_n 0, 1) := by decide +kernel
theorem dX3_bestBlock_1 : decode cX3_bestBlock 1 = .ok (.aload_n 1, 1) := by decide +kernel
theorem dX3_bestBlock_2 : decode cX3_bestBlock 2 = .ok (.getfield 49, 3) := by decide +kernel
theorem dX3_bestBlock_5 : decode cX3_bestBlock 5 = .ok (.invokevirtual 53, 3) := by decide +kernel
theorem dX3_bestBlock_8 : decode cX3_bestBlock 8 = .ok (.iconst 1, 1) := by decide +kernel
theorem dX3_bestBlock_9 : decode cX3_bestBlock 9 = .ok (.istore_n 2, 1) := by decide +kernel
theorem dX3_bestBlock_10 : decode cX3_bestBlock 10 = .ok (.iconst 2, 1) := by decide +kernel
theorem dX3_bestBlock_11 : decode cX3_bestBlock 11 = .ok (.istore_n 3, 1) := by decide +kernel
theorem dX3_bestBlock_12 : decode cX3_bestBlock 12 = .ok (.iload_n 3, 1) := by decide +kernel
theorem dX3_bestBlock_13 : decode cX3_bestBlock 13 = .ok (.bipush 10, 2) := by decide +kernel
theorem dX3_bestBlock_15 : decode cX3_bestBlock 15 = .ok (.if_icmp .gt 33, 3) := by decide +kernel
theorem dX3_bestBlock_18 : decode cX3_bestBlock 18 = .ok (.aload_n 0, 1) := by decide +kernel
theorem dX3_bestBlock_19 : decode cX3_bestBlock 19 = .ok (.iload_n 3, 1) := by decide +kernel
theorem dX3_bestBlock_20 : decode cX3_bestBlock 20 = .ok (.aload_n 1, 1) := by decide +kernel
theorem dX3_bestBlock_21 : decode cX3_bestBlock 21 = .ok (.invokevirtual 57, 3) := by decide +kernel
theorem dX3_bestBlock_24 : decode cX3_bestBlock 24 = .ok (.iload_n 2, 1) := by decide +kernel
theorem dX3_bestBlock_25 : decode cX3_bestBlock 25 = .ok (.i2l, 1) := by decide +kernel
theorem dX3_bestBlock_26 : decode cX3_bestBlock 26 = .ok (.lmul, 1) := by decide +kernel
theorem dX3_bestBlock_27 : decode cX3_bestBlock 27 = .ok (.aload_n 0, 1) := by decide +kernel
theorem dX3_bestBlock_28 : decode cX3_bestBlock 28 = .ok (.iload_n 2, 1) := by decide +kernel
theorem dX3_bestBlock_29 : decode cX3_bestBlock 29 = .ok (.aload_n 1, 1) := by decide +kernel
theorem dX3_bestBlock_30 : decode cX3_bestBlock 30 = .ok (.invokevirtual 57, 3) := by decide +kernel
theorem dX3_bestBlock_33 : decode cX3_bestBlock 33 = .ok (.iload_n 3, 1) := by decide +kernel
theorem dX3_bestBlock_34 : decode cX3_bestBlock 34 = .ok (.i2l, 1) := by decide +kernel
theorem dX3_bestBlock_35 : decode cX3_bestBlock 35 = .ok (.lmul, 1) := by decide +kernel
theorem dX3_bestBlock_36 : decode cX3_bestBlock 36 = .ok (.lcmp, 1) := by decide +kernel
theorem dX3_bestBlock_37 : decode cX3_bestBlock 37 = .ok (.ifCond .ge 5, 3) := by decide +kernel
theorem dX3_bestBlock_40 : decode cX3_bestBlock 40 = .ok (.iload_n 3, 1) := by decide +kernel
theorem dX3_bestBlock_41 : decode cX3_bestBlock 41 = .ok (.istore_n 2, 1) := by decide +kernel
theorem dX3_bestBlock_42 : decode cX3_bestBlock 42 = .ok (.iinc 3 1, 3) := by decide +kernel
theorem dX3_bestBlock_45 : decode cX3_bestBlock 45 = .ok (.goto (-33), 3) := by decide +kernel
theorem dX3_bestBlock_48 : decode cX3_bestBlock 48 = .ok (.iload_n 2, 1) := by decide +kernel
theorem dX3_bestBlock_49 : decode cX3_bestBlock 49 = .ok (.ireturn, 1) := by decide +kernel
theorem dX4_init_0 : decode cX4_init 0 = .ok (.aload_n 0, 1) := by decide +kernel
theorem dX4_init_1 : decode cX4_init 1 = .ok (.invokespecial 3, 3) := by decide +kernel
theorem dX4_init_4 : decode cX4_init 4 = .ok (.aload_n 0, 1) := by decide +kernel
theorem dX4_init_5 : decode cX4_init 5 = .ok (.bipush 24, 2) := by decide +kernel
theorem dX4_init_7 : decode cX4_init 7 = .ok (.newarray .long, 2) := by decide +kernel
theorem dX4_init_9 : decode cX4_init 9 = .ok (.putfield 9, 3) := by decide +kernel
theorem dX4_init_12 : decode cX4_init 12 = .ok (.return_, 1) := by decide +kernel
set_option maxRecDepth 20000 in
theorem ggX4_begin_J7_fill_d0a16 : GoodIn wsX4_begin wsJ7_fill_d0a16 := goodIn_r _ [8] (by decide +kernel) (by decide +kernel)
set_option maxRecDepth 20000 in
theorem gX4_begin_J7_fill_d0a16 : GoodIn wsX4_begin (va_wsS RX4 26 yJ7_fill_d0a16 wsJ7_fill_d0a16) := goodIn_app (goodIn_of _ (by decide +kernel)) ggX4_begin_J7_fill_d0a16
theorem dX4_begin_0 : decode cX4_begin 0 = .ok (.aload_n 0, 1) := by decide +kernel
theorem dX4_begin_1 : decode cX4_begin 1 = .ok (.iconst 1, 1) := by decide +kernel
theorem dX4_begin_2 : decode cX4_begin 2 = .ok (.putfield 15, 3) := by decide +kernel
theorem dX4_begin_5 : decode cX4_begin 5 = .ok (.aload_n 0, 1) := by decide +kernel
theorem dX4_begin_6 : decode cX4_begin 6 = .ok (.iload_n 1, 1) := by decide +kernel
theorem dX4_begin_7 : decode cX4_begin 7 = .ok (.putfield 19, 3) := by decide +kernel
theorem dX4_begin_10 : decode cX4_begin 10 = .ok (.aload_n 0, 1) := by decide +kernel
theorem dX4_begin_11 : decode cX4_begin 11 = .ok (.iload_n 2, 1) := by decide +kernel
theorem dX4_begin_12 : decode cX4_begin 12 = .ok (.putfield 23, 3) := by decide +kernel
theorem dX4_begin_15 : decode cX4_begin 15 = .ok (.aload_n 0, 1) := by decide +kernel
theorem dX4_begin_16 : decode cX4_begin 16 = .ok (.getfield 9, 3) := by decide +kernel
theorem dX4_begin_19 : decode cX4_begin 19 = .ok (.lconst 0, 1) := by decide +kernel
theorem dX4_begin_20 : decode cX4_begin 20 = .ok (.invokestatic 26, 3) := by decide +kernel
theorem dX4_begin_23 : decode cX4_begin 23 = .ok (.return_, 1) := by decide +kernel
theorem dX4_holds_0 : decode cX4_holds 0 = .ok (.iload_n 2, 1) := by decide +kernel
theorem dX4_holds_1 : decode cX4_holds 1 = .ok (.ifCond .lt 29, 3) := by decide +kernel
theorem dX4_holds_4 : decode cX4_holds 4 = .ok (.iload_n 1, 1) := by decide +kernel
theorem dX4_holds_5 : decode cX4_holds 5 = .ok (.ifCond .lt 25, 3) := by decide +kernel
theorem dX4_holds_8 : decode cX4_holds 8 = .ok (.iload_n 2, 1) := by decide +kernel
theorem dX4_holds_9 : decode cX4_holds 9 = .ok (.aload_n 0, 1) := by decide +kernel
theorem dX4_holds_10 : decode cX4_holds 10 = .ok (.getfield 23, 3) := by decide +kernel
theorem dX4_holds_13 : decode cX4_holds 13 = .ok (.if_icmp .gt 17, 3) := by decide +kernel
theorem dX4_holds_16 : decode cX4_holds 16 = .ok (.iload_n 1, 1) := by decide +kernel
theorem dX4_holds_17 : decode cX4_holds 17 = .ok (.aload_n 0, 1) := by decide +kernel
theorem dX4_holds_18 : decode cX4_holds 18 = .ok (.getfield 23, 3) := by decide +kernel
theorem dX4_holds_21 : decode cX4_holds 21 = .ok (.iload_n 2, 1) := by decide +kernel
theorem dX4_holds_22 : decode cX4_holds 22 = .ok (.isub, 1) := by decide +kernel
theorem dX4_holds_23 : decode cX4_holds 23 = .ok (.if_icmp .gt 7, 3) := by decide +kernel
theorem dX4_holds_26 : decode cX4_holds 26 = .ok (.iconst 1, 1) := by decide +kernel
theorem dX4_holds_27 : decode cX4_holds 27 = .ok (.goto 4, 3) := by decide +kernel
theorem dX4_holds_30 : decode cX4_holds 30 = .ok (.iconst 0, 1) := by decide +kernel
theorem dX4_holds_31 : decode cX4_holds 31 = .ok (.ireturn, 1) := by decide +kernel
set_option maxRecDepth 20000 in
theorem ggX4_refusal_X4_holds : GoodIn wsX4_refusal wsX4_holds := goodIn_r _ [7, 8, 9, 10, 11, 12] (by decide +kernel) (by decide +kernel)
set_option maxRecDepth 20000 in
theorem gX4_refusal_X4_holds : GoodIn wsX4_refusal (wsV RX4 32 RX4 yX4_holds wsX4_holds) := goodIn_app (goodIn_of _ (by decide +kernel)) ggX4_refusal_X4_holds
theorem dX4_refusal_0 : decode cX4_refusal 0 = .ok (.aload_n 0, 1) := by decide +kernel
theorem dX4_refusal_1 : decode cX4_refusal 1 = .ok (.getfield 15, 3) := by decide +kernel
theorem dX4_refusal_4 : decode cX4_refusal 4 = .ok (.ifCond .ne 6, 3) := by decide +kernel
theorem dX4_refusal_7 : decode cX4_refusal 7 = .ok (.bipush (-11), 2) := by decide +kernel
theorem dX4_refusal_9 : decode cX4_refusal 9 = .ok (.ireturn, 1) := by decide +kernel
theorem dX4_refusal_10 : decode cX4_refusal 10 = .ok (.iload_n 1, 1) := by decide +kernel
theorem dX4_refusal_11 : decode cX4_refusal 11 = .ok (.aload_n 0, 1) := by decide +kernel
theorem dX4_refusal_12 : decode cX4_refusal 12 = .ok (.getfield 19, 3) := by decide +kernel
theorem dX4_refusal_15 : decode cX4_refusal 15 = .ok (.if_icmp .eq 6, 3) := by decide +kernel
theorem dX4_refusal_18 : decode cX4_refusal 18 = .ok (.bipush (-12), 2) := by decide +kernel
theorem dX4_refusal_20 : decode cX4_refusal 20 = .ok (.ireturn, 1) := by decide +kernel
theorem dX4_refusal_21 : decode cX4_refusal 21 = .ok (.aload_n 0, 1) := by decide +kernel
theorem dX4_refusal_22 : decode cX4_refusal 22 = .ok (.iload_n 2, 1) := by decide +kernel
theorem dX4_refusal_23 : decode cX4_refusal 23 = .ok (.iload_n 3, 1) := by decide +kernel
theorem dX4_refusal_24 : decode cX4_refusal 24 = .ok (.invokevirtual 32, 3) := by decide +kernel
theorem dX4_refusal_27 : decode cX4_refusal 27 = .ok (.ifCond .eq 7, 3) := by decide +kernel
theorem dX4_refusal_30 : decode cX4_refusal 30 = .ok (.iconst 0, 1) := by decide +kernel
theorem dX4_refusal_31 : decode cX4_refusal 31 = .ok (.goto 5, 3) := by decide +kernel
theorem dX4_refusal_34 : decode cX4_refusal 34 = .ok (.bipush (-13), 2) := by decide +kernel
theorem dX4_refusal_36 : decode cX4_refusal 36 = .ok (.ireturn, 1) := by decide +kernel
theorem dX4_get_0 : decode cX4_get 0 = .ok (.iload_n 1, 1) := by decide +kernel
theorem dX4_get_1 : decode cX4_get 1 = .ok (.ifCond .lt 21, 3) := by decide +kernel
theorem dX4_get_4 : decode cX4_get 4 = .ok (.iload_n 1, 1) := by decide +kernel
theorem dX4_get_5 : decode cX4_get 5 = .ok (.aload_n 0, 1) := by decide +kernel
theorem dX4_get_6 : decode cX4_get 6 = .ok (.getfield 9, 3) := by decide +kernel
theorem dX4_get_9 : decode cX4_get 9 = .ok (.arraylength, 1) := by decide +kernel
theorem dX4_get_10 : decode cX4_get 10 = .ok (.if_icmp .ge 12, 3) := by decide +kernel
theorem dX4_get_13 : decode cX4_get 13 = .ok (.aload_n 0, 1) := by decide +kernel
theorem dX4_get_14 : decode cX4_get 14 = .ok (.getfield 9, 3) := by decide +kernel
theorem dX4_get_17 : decode cX4_get 17 = .ok (.iload_n 1, 1) := by decide +kernel
theorem dX4_get_18 : decode cX4_get 18 = .ok (.laload, 1) := by decide +kernel
theorem dX4_get_19 : decode cX4_get 19 = .ok (.goto 4, 3) := by decide +kernel
theorem dX4_get_22 : decode cX4_get 22 = .ok (.lconst 0, 1) := by decide +kernel
theorem dX4_get_23 : decode cX4_get 23 = .ok (.lreturn, 1) := by decide +kernel
set_option maxRecDepth 20000 in
theorem ggX4_put_X4_lowestBits : GoodIn wsX4_put wsX4_lowestBits := goodIn_r _ [6, 7, 8, 9, 10, 11] (by decide +kernel) (by decide +kernel)
set_option maxRecDepth 20000 in
theorem gX4_put_X4_lowestBits : GoodIn wsX4_put (wsV RX4 36 RX4 yX4_lowestBits wsX4_lowestBits) := goodIn_app (goodIn_of _ (by decide +kernel)) ggX4_put_X4_lowestBits
theorem dX4_put_0 : decode cX4_put 0 = .ok (.iload_n 1, 1) := by decide +kernel
theorem dX4_put_1 : decode cX4_put 1 = .ok (.ifCond .lt 23, 3) := by decide +kernel
theorem dX4_put_4 : decode cX4_put 4 = .ok (.iload_n 1, 1) := by decide +kernel
theorem dX4_put_5 : decode cX4_put 5 = .ok (.aload_n 0, 1) := by decide +kernel
theorem dX4_put_6 : decode cX4_put 6 = .ok (.getfield 9, 3) := by decide +kernel
theorem dX4_put_9 : decode cX4_put 9 = .ok (.arraylength, 1) := by decide +kernel
theorem dX4_put_10 : decode cX4_put 10 = .ok (.if_icmp .ge 14, 3) := by decide +kernel
theorem dX4_put_13 : decode cX4_put 13 = .ok (.aload_n 0, 1) := by decide +kernel
theorem dX4_put_14 : decode cX4_put 14 = .ok (.getfield 9, 3) := by decide +kernel
theorem dX4_put_17 : decode cX4_put 17 = .ok (.iload_n 1, 1) := by decide +kernel
theorem dX4_put_18 : decode cX4_put 18 = .ok (.aload_n 0, 1) := by decide +kernel
theorem dX4_put_19 : decode cX4_put 19 = .ok (.lload_n 2, 1) := by decide +kernel
theorem dX4_put_20 : decode cX4_put 20 = .ok (.invokevirtual 36, 3) := by decide +kernel
theorem dX4_put_23 : decode cX4_put 23 = .ok (.lastore, 1) := by decide +kernel
theorem dX4_put_24 : decode cX4_put 24 = .ok (.return_, 1) := by decide +kernel
theorem dX4_lowestBits_0 : decode cX4_lowestBits 0 = .ok (.aload_n 0, 1) := by decide +kernel
theorem dX4_lowestBits_1 : decode cX4_lowestBits 1 = .ok (.getfield 19, 3) := by decide +kernel
theorem dX4_lowestBits_4 : decode cX4_lowestBits 4 = .ok (.tableswitch 42 0 2 #[28, 33, 38], 28) := by decide +kernel
theorem dX4_lowestBits_32 : decode cX4_lowestBits 32 = .ok (.lload_n 1, 1) := by decide +kernel
theorem dX4_lowestBits_33 : decode cX4_lowestBits 33 = .ok (.l2i, 1) := by decide +kernel
theorem dX4_lowestBits_34 : decode cX4_lowestBits 34 = .ok (.i2b, 1) := by decide +kernel
theorem dX4_lowestBits_35 : decode cX4_lowestBits 35 = .ok (.i2l, 1) := by decide +kernel
theorem dX4_lowestBits_36 : decode cX4_lowestBits 36 = .ok (.lreturn, 1) := by decide +kernel
theorem dX4_lowestBits_37 : decode cX4_lowestBits 37 = .ok (.lload_n 1, 1) := by decide +kernel
theorem dX4_lowestBits_38 : decode cX4_lowestBits 38 = .ok (.l2i, 1) := by decide +kernel
theorem dX4_lowestBits_39 : decode cX4_lowestBits 39 = .ok (.i2s, 1) := by decide +kernel
theorem dX4_lowestBits_40 : decode cX4_lowestBits 40 = .ok (.i2l, 1) := by decide +kernel
theorem dX4_lowestBits_41 : decode cX4_lowestBits 41 = .ok (.lreturn, 1) := by decide +kernel
theorem dX4_lowestBits_42 : decode cX4_lowestBits 42 = .ok (.lload_n 1, 1) := by decide +kernel
theorem dX4_lowestBits_43 : decode cX4_lowestBits 43 = .ok (.l2i, 1) := by decide +kernel
theorem dX4_lowestBits_44 : decode cX4_lowestBits 44 = .ok (.i2l, 1) := by decide +kernel
theorem dX4_lowestBits_45 : decode cX4_lowestBits 45 = .ok (.lreturn, 1) := by decide +kernel
theorem dX4_lowestBits_46 : decode cX4_lowestBits 46 = .ok (.lload_n 1, 1) := by decide +kernel
theorem dX4_lowestBits_47 : decode cX4_lowestBits 47 = .ok (.lreturn, 1) := by decide +kernel
theorem dX5_init_0 : decode cX5_init 0 = .ok (.aload_n 0, 1) := by decide +kernel
theorem dX5_init_1 : decode cX5_init 1 = .ok (.invokespecial 3, 3) := by decide +kernel
theorem dX5_init_4 : decode cX5_init 4 = .ok (.aload_n 0, 1) := by decide +kernel
theorem dX5_init_5 : decode cX5_init 5 = .ok (.iconst 3, 1) := by decide +kernel
theorem dX5_init_6 : decode cX5_init 6 = .ok (.putfield 9, 3) := by decide +kernel
theorem dX5_init_9 : decode cX5_init 9 = .ok (.aload_n 0, 1) := by decide +kernel
theorem dX5_init_10 : decode cX5_init 10 = .ok (.bipush 9, 2) := by decide +kernel
theorem dX5_init_12 : decode cX5_init 12 = .ok (.newarray .int, 2) := by decide +kernel
theorem dX5_init_14 : decode cX5_init 14 = .ok (.dup, 1) := by decide +kernel
theorem dX5_init_15 : decode cX5_init 15 = .ok (.iconst 0, 1) := by decide +kernel
theorem dX5_init_16 : decode cX5_init 16 = .ok (.iconst 0, 1) := by decide +kernel
theorem dX5_init_17 : decode cX5_init 17 = .ok (.iastore, 1) := by decide +kernel
theorem dX5_init_18 : decode cX5_init 18 = .ok (.dup, 1) := by decide +kernel
theorem dX5_init_19 : decode cX5_init 19 = .ok (.iconst 1, 1) := by decide +kernel
theorem dX5_init_20 : decode cX5_init 20 = .ok (.iconst 1, 1) := by decide +kernel
theorem dX5_init_21 : decode cX5_init 21 = .ok (.iastore, 1) := by decide +kernel
theorem dX5_init_22 : decode cX5_init 22 = .ok (.dup, 1) := by decide +kernel
theorem dX5_init_23 : decode cX5_init 23 = .ok (.iconst 2, 1) := by decide +kernel
theorem dX5_init_24 : decode cX5_init 24 = .ok (.iconst 1, 1) := by decide +kernel
theorem dX5_init_25 : decode cX5_init 25 = .ok (.iastore, 1) := by decide +kernel
theorem dX5_init_26 : decode cX5_init 26 = .ok (.dup, 1) := by decide +kernel
theorem dX5_init_27 : decode cX5_init 27 = .ok (.iconst 3, 1) := by decide +kernel
theorem dX5_init_28 : decode cX5_init 28 = .ok (.iconst 1, 1) := by decide +kernel
theorem dX5_init_29 : decode cX5_init 29 = .ok (.iastore, 1) := by decide +kernel
theorem dX5_init_30 : decode cX5_init 30 = .ok (.dup, 1) := by decide +kernel
theorem dX5_init_31 : decode cX5_init 31 = .ok (.iconst 4, 1) := by decide +kernel
theorem dX5_init_32 : decode cX5_init 32 = .ok (.iconst 0, 1) := by decide +kernel
theorem dX5_init_33 : decode cX5_init 33 = .ok (.iastore, 1) := by decide +kernel
theorem dX5_init_34 : decode cX5_init 34 = .ok (.dup, 1) := by decide +kernel
theorem dX5_init_35 : decode cX5_init 35 = .ok (.iconst 5, 1) := by decide +kernel
theorem dX5_init_36 : decode cX5_init 36 = .ok (.iconst 0, 1) := by decide +kernel
theorem dX5_init_37 : decode cX5_init 37 = .ok (.iastore, 1) := by decide +kernel
theorem dX5_init_38 : decode cX5_init 38 = .ok (.dup, 1) := by decide +kernel
theorem dX5_init_39 : decode cX5_init 39 = .ok (.bipush 6, 2) := by decide +kernel
theorem dX5_init_41 : decode cX5_init 41 = .ok (.iconst 0, 1) := by decide +kernel
theorem dX5_init_42 : decode cX5_init 42 = .ok (.iastore, 1) := by decide +kernel
theorem dX5_init_43 : decode cX5_init 43 = .ok (.dup, 1) := by decide +kernel
theorem dX5_init_44 : decode cX5_init 44 = .ok (.bipush 7, 2) := by decide +kernel
theorem dX5_init_46 : decode cX5_init 46 = .ok (.iconst 0, 1) := by decide +kernel
theorem dX5_init_47 : decode cX5_init 47 = .ok (.iastore, 1) := by decide +kernel
theorem dX5_init_48 : decode cX5_init 48 = .ok (.dup, 1) := by decide +kernel
theorem dX5_init_49 : decode cX5_init 49 = .ok (.bipush 8, 2) := by decide +kernel
theorem dX5_init_51 : decode cX5_init 51 = .ok (.iconst 0, 1) := by decide +kernel
theorem dX5_init_52 : decode cX5_init 52 = .ok (.iastore, 1) := by decide +kernel
theorem dX5_init_53 : decode cX5_init 53 = .ok (.putfield 15, 3) := by decide +kernel
theorem dX5_init_56 : decode cX5_init 56 = .ok (.return_, 1) := by decide +kernel
theorem dX5_weightOf_0 : decode cX5_weightOf 0 = .ok (.iload_n 1, 1) := by decide +kernel
theorem dX5_weightOf_1 : decode cX5_weightOf 1 = .ok (.iconst 1, 1) := by decide +kernel
theorem dX5_weightOf_2 : decode cX5_weightOf 2 = .ok (.if_icmp .lt 29, 3) := by decide +kernel
theorem dX5_weightOf_5 : decode cX5_weightOf 5 = .ok (.iload_n 1, 1) := by decide +kernel
theorem dX5_weightOf_6 : decode cX5_weightOf 6 = .ok (.aload_n 0, 1) := by decide +kernel
theorem dX5_weightOf_7 : decode cX5_weightOf 7 = .ok (.getfield 9, 3) := by decide +kernel
theorem dX5_weightOf_10 : decode cX5_weightOf 10 = .ok (.if_icmp .gt 21, 3) := by decide +kernel
theorem dX5_weightOf_13 : decode cX5_weightOf 13 = .ok (.iload_n 1, 1) := by decide +kernel
theorem dX5_weightOf_14 : decode cX5_weightOf 14 = .ok (.aload_n 0, 1) := by decide +kernel
theorem dX5_weightOf_15 : decode cX5_weightOf 15 = .ok (.getfield 15, 3) := by decide +kernel
theorem dX5_weightOf_18 : decode cX5_weightOf 18 = .ok (.arraylength, 1) := by decide +kernel
theorem dX5_weightOf_19 : decode cX5_weightOf 19 = .ok (.if_icmp .ge 12, 3) := by decide +kernel
theorem dX5_weightOf_22 : decode cX5_weightOf 22 = .ok (.aload_n 0, 1) := by decide +kernel
theorem dX5_weightOf_23 : decode cX5_weightOf 23 = .ok (.getfield 15, 3) := by decide +kernel
theorem dX5_weightOf_26 : decode cX5_weightOf 26 = .ok (.iload_n 1, 1) := by decide +kernel
theorem dX5_weightOf_27 : decode cX5_weightOf 27 = .ok (.iaload, 1) := by decide +kernel
theorem dX5_weightOf_28 : decode cX5_weightOf 28 = .ok (.goto 4, 3) := by decide +kernel
theorem dX5_weightOf_31 : decode cX5_weightOf 31 = .ok (.iconst 0, 1) := by decide +kernel
theorem dX5_weightOf_32 : decode cX5_weightOf 32 = .ok (.ireturn, 1) := by decide +kernel
theorem dX5_put_0 : decode cX5_put 0 = .ok (.iload_n 1, 1) := by decide +kernel
theorem dX5_put_1 : decode cX5_put 1 = .ok (.iconst 1, 1) := by decide +kernel
theorem dX5_put_2 : decode cX5_put 2 = .ok (.if_icmp .lt 19, 3) := by decide +kernel
theorem dX5_put_5 : decode cX5_put 5 = .ok (.iload_n 1, 1) := by decide +kernel
theorem dX5_put_6 : decode cX5_put 6 = .ok (.aload_n 0, 1) := by decide +kernel
theorem dX5_put_7 : decode cX5_put 7 = .ok (.getfield 15, 3) := by decide +kernel
theorem dX5_put_10 : decode cX5_put 10 = .ok (.arraylength, 1) := by decide +kernel
theorem dX5_put_11 : decode cX5_put 11 = .ok (.if_icmp .ge 10, 3) := by decide +kernel
theorem dX5_put_14 : decode cX5_put 14 = .ok (.aload_n 0, 1) := by decide +kernel
theorem dX5_put_15 : decode cX5_put 15 = .ok (.getfield 15, 3) := by decide +kernel
theorem dX5_put_18 : decode cX5_put 18 = .ok (.iload_n 1, 1) := by decide +kernel
theorem dX5_put_19 : decode cX5_put 19 = .ok (.iload_n 2, 1) := by decide +kernel
theorem dX5_put_20 : decode cX5_put 20 = .ok (.iastore, 1) := by decide +kernel
theorem dX5_put_21 : decode cX5_put 21 = .ok (.return_, 1) := by decide +kernel
set_option maxRecDepth 20000 in
theorem ggX5_left_X5_weightOf : GoodIn wsX5_left wsX5_weightOf := goodIn_r _ [6, 1, 7, 8, 9] (by decide +kernel) (by decide +kernel)
set_option maxRecDepth 20000 in
theorem gX5_left_X5_weightOf : GoodIn wsX5_left (wsV RX5 19 RX5 yX5_weightOf wsX5_weightOf) := goodIn_app (goodIn_of _ (by decide +kernel)) ggX5_left_X5_weightOf
theorem dX5_left_0 : decode cX5_left 0 = .ok (.iconst 0, 1) := by decide +kernel
theorem dX5_left_1 : decode cX5_left 1 = .ok (.istore_n 2, 1) := by decide +kernel
theorem dX5_left_2 : decode cX5_left 2 = .ok (.iload_n 1, 1) := by decide +kernel
theorem dX5_left_3 : decode cX5_left 3 = .ok (.iconst 1, 1) := by decide +kernel
theorem dX5_left_4 : decode cX5_left 4 = .ok (.iadd, 1) := by decide +kernel
theorem dX5_left_5 : decode cX5_left 5 = .ok (.istore_n 3, 1) := by decide +kernel
theorem dX5_left_6 : decode cX5_left 6 = .ok (.iload_n 3, 1) := by decide +kernel
theorem dX5_left_7 : decode cX5_left 7 = .ok (.aload_n 0, 1) := by decide +kernel
theorem dX5_left_8 : decode cX5_left 8 = .ok (.getfield 9, 3) := by decide +kernel
theorem dX5_left_11 : decode cX5_left 11 = .ok (.if_icmp .gt 17, 3) := by decide +kernel
theorem dX5_left_14 : decode cX5_left 14 = .ok (.iload_n 2, 1) := by decide +kernel
theorem dX5_left_15 : decode cX5_left 15 = .ok (.aload_n 0, 1) := by decide +kernel
theorem dX5_left_16 : decode cX5_left 16 = .ok (.iload_n 3, 1) := by decide +kernel
theorem dX5_left_17 : decode cX5_left 17 = .ok (.invokevirtual 19, 3) := by decide +kernel
theorem dX5_left_20 : decode cX5_left 20 = .ok (.iadd, 1) := by decide +kernel
theorem dX5_left_21 : decode cX5_left 21 = .ok (.istore_n 2, 1) := by decide +kernel
theorem dX5_left_22 : decode cX5_left 22 = .ok (.iinc 3 1, 3) := by decide +kernel
theorem dX5_left_25 : decode cX5_left 25 = .ok (.goto (-19), 3) := by decide +kernel
theorem dX5_left_28 : decode cX5_left 28 = .ok (.iload_n 2, 1) := by decide +kernel
theorem dX5_left_29 : decode cX5_left 29 = .ok (.ireturn, 1) := by decide +kernel
set_option maxRecDepth 20000 in
theorem ggX5_all_X5_left : GoodIn wsX5_all wsX5_left := goodIn_r _ [5, 6, 7, 8, 9, 4, 10, 11, 12, 13] (by decide +kernel) (by decide +kernel)
set_option maxRecDepth 20000 in
theorem gX5_all_X5_left : GoodIn wsX5_all (wsV RX5 23 RX5 yX5_left wsX5_left) := goodIn_app (goodIn_of _ (by decide +kernel)) ggX5_all_X5_left
theorem dX5_all_0 : decode cX5_all 0 = .ok (.aload_n 0, 1) := by decide +kernel
theorem dX5_all_1 : decode cX5_all 1 = .ok (.iconst 0, 1) := by decide +kernel
theorem dX5_all_2 : decode cX5_all 2 = .ok (.invokevirtual 23, 3) := by decide +kernel
theorem dX5_all_5 : decode cX5_all 5 = .ok (.ireturn, 1) := by decide +kernel
set_option maxRecDepth 20000 in
theorem ggX5_mayHold_X5_all : GoodIn wsX5_mayHold wsX5_all := goodIn_r _ [6, 7, 8, 9, 5, 10, 1, 11, 12, 13, 14, 15, 16, 17] (by decide +kernel) (by decide +kernel)
set_option maxRecDepth 20000 in
theorem gX5_mayHold_X5_all : GoodIn wsX5_mayHold (wsV RX5 26 RX5 yX5_all wsX5_all) := goodIn_app (goodIn_of _ (by decide +kernel)) ggX5_mayHold_X5_all
set_option maxRecDepth 20000 in
theorem ggX5_mayHold_X5_weightOf : GoodIn wsX5_mayHold wsX5_weightOf := goodIn_r _ [14, 1, 15, 16, 17] (by decide +kernel) (by decide +kernel)
set_option maxRecDepth 20000 in
theorem gX5_mayHold_X5_weightOf : GoodIn wsX5_mayHold (wsV RX5 19 RX5 yX5_weightOf wsX5_weightOf) := goodIn_app (goodIn_of _ (by decide +kernel)) ggX5_mayHold_X5_weightOf
theorem dX5_mayHold_0 : decode cX5_mayHold 0 = .ok (.aload_n 0, 1) := by decide +kernel
theorem dX5_mayHold_1 : decode cX5_mayHold 1 = .ok (.invokevirtual 26, 3) := by decide +kernel
theorem dX5_mayHold_4 : decode cX5_mayHold 4 = .ok (.aload_n 0, 1) := by decide +kernel
theorem dX5_mayHold_5 : decode cX5_mayHold 5 = .ok (.iload_n 1, 1) := by decide +kernel
theorem dX5_mayHold_6 : decode cX5_mayHold 6 = .ok (.invokevirtual 19, 3) := by decide +kernel
theorem dX5_mayHold_9 : decode cX5_mayHold 9 = .ok (.isub, 1) := by decide +kernel
theorem dX5_mayHold_10 : decode cX5_mayHold 10 = .ok (.iload_n 2, 1) := by decide +kernel
theorem dX5_mayHold_11 : decode cX5_mayHold 11 = .ok (.iadd, 1) := by decide +kernel
theorem dX5_mayHold_12 : decode cX5_mayHold 12 = .ok (.bipush 24, 2) := by decide +kernel
theorem dX5_mayHold_14 : decode cX5_mayHold 14 = .ok (.if_icmp .gt 19, 3) := by decide +kernel
theorem dX5_mayHold_17 : decode cX5_mayHold 17 = .ok (.iload_n 1, 1) := by decide +kernel
theorem dX5_mayHold_18 : decode cX5_mayHold 18 = .ok (.aload_n 0, 1) := by decide +kernel
theorem dX5_mayHold_19 : decode cX5_mayHold 19 = .ok (.getfield 9, 3) := by decide +kernel
theorem dX5_mayHold_22 : decode cX5_mayHold 22 = .ok (.if_icmp .ne 7, 3) := by decide +kernel
theorem dX5_mayHold_25 : decode cX5_mayHold 25 = .ok (.iload_n 2, 1) := by decide +kernel
theorem dX5_mayHold_26 : decode cX5_mayHold 26 = .ok (.ifCond .eq 7, 3) := by decide +kernel
theorem dX5_mayHold_29 : decode cX5_mayHold 29 = .ok (.iconst 1, 1) := by decide +kernel
theorem dX5_mayHold_30 : decode cX5_mayHold 30 = .ok (.goto 4, 3) := by decide +kernel
theorem dX5_mayHold_33 : decode cX5_mayHold 33 = .ok (.iconst 0, 1) := by decide +kernel
theorem dX5_mayHold_34 : decode cX5_mayHold 34 = .ok (.ireturn, 1) := by decide +kernel
set_option maxRecDepth 20000 in
theorem ggX5_resize_X5_put : GoodIn wsX5_resize wsX5_put := goodIn_r _ [6, 7, 8, 9] (by decide +kernel) (by decide +kernel)
set_option maxRecDepth 20000 in
theorem gX5_resize_X5_put : GoodIn wsX5_resize (wsV RX5 30 RX5 yX5_put wsX5_put) := goodIn_app (goodIn_of _ (by decide +kernel)) ggX5_resize_X5_put
theorem dX5_resize_0 : decode cX5_resize 0 = .ok (.aload_n 0, 1) := by decide +kernel
theorem dX5_resize_1 : decode cX5_resize 1 = .ok (.getfield 9, 3) := by decide +kernel
theorem dX5_resize_4 : decode cX5_resize 4 = .ok (.iconst 1, 1) := by decide +kernel
theorem dX5_resize_5 : decode cX5_resize 5 = .ok (.iadd, 1) := by decide +kernel
theorem dX5_resize_6 : decode cX5_resize 6 = .ok (.istore_n 2, 1) := by decide +kernel
theorem dX5_resize_7 : decode cX5_resize 7 = .ok (.iload_n 2, 1) := by decide +kernel
theorem dX5_resize_8 : decode cX5_resize 8 = .ok (.iload_n 1, 1) := by decide +kernel
theorem dX5_resize_9 : decode cX5_resize 9 = .ok (.if_icmp .gt 15, 3) := by decide +kernel
theorem dX5_resize_12 : decode cX5_resize 12 = .ok (.aload_n 0, 1) := by decide +kernel
theorem dX5_resize_13 : decode cX5_resize 13 = .ok (.iload_n 2, 1) := by decide +kernel
theorem dX5_resize_14 : decode cX5_resize 14 = .ok (.iconst 1, 1) := by decide +kernel
theorem dX5_resize_15 : decode cX5_resize 15 = .ok (.invokevirtual 30, 3) := by decide +kernel
theorem dX5_resize_18 : decode cX5_resize 18 = .ok (.iinc 2 1, 3) := by decide +kernel
theorem dX5_resize_21 : decode cX5_resize 21 = .ok (.goto (-14), 3) := by decide +kernel
theorem dX5_resize_24 : decode cX5_resize 24 = .ok (.aload_n 0, 1) := by decide +kernel
theorem dX5_resize_25 : decode cX5_resize 25 = .ok (.iload_n 1, 1) := by decide +kernel
theorem dX5_resize_26 : decode cX5_resize 26 = .ok (.putfield 9, 3) := by decide +kernel
theorem dX5_resize_29 : decode cX5_resize 29 = .ok (.return_, 1) := by decide +kernel
set_option maxRecDepth 20000 in
theorem ggX5_empty_J7_fill_53178 : GoodIn wsX5_empty wsJ7_fill_53178 := goodIn_r _ [6] (by decide +kernel) (by decide +kernel)
set_option maxRecDepth 20000 in
theorem gX5_empty_J7_fill_53178 : GoodIn wsX5_empty (va_wsS RX5 34 yJ7_fill_53178 wsJ7_fill_53178) := goodIn_app (goodIn_of _ (by decide +kernel)) ggX5_empty_J7_fill_53178
theorem dX5_empty_0 : decode cX5_empty 0 = .ok (.aload_n 0, 1) := by decide +kernel
theorem dX5_empty_1 : decode cX5_empty 1 = .ok (.iconst 0, 1) := by decide +kernel
theorem dX5_empty_2 : decode cX5_empty 2 = .ok (.putfield 9, 3) := by decide +kernel
theorem dX5_empty_5 : decode cX5_empty 5 = .ok (.aload_n 0, 1) := by decide +kernel
theorem dX5_empty_6 : decode cX5_empty 6 = .ok (.getfield 15, 3) := by decide +kernel
theorem dX5_empty_9 : decode cX5_empty 9 = .ok (.iconst 0, 1) := by decide +kernel
theorem dX5_empty_10 : decode cX5_empty 10 = .ok (.invokestatic 34, 3) := by decide +kernel
theorem dX5_empty_13 : decode cX5_empty 13 = .ok (.return_, 1) := by decide +kernel
set_option maxRecDepth 20000 in
theorem ggX5_addOne_X5_weightOf : GoodIn wsX5_addOne wsX5_weightOf := goodIn_r _ [10, 1, 11, 16, 17] (by decide +kernel) (by decide +kernel)
set_option maxRecDepth 20000 in
theorem gX5_addOne_X5_weightOf : GoodIn wsX5_addOne (wsV RX5 19 RX5 yX5_weightOf wsX5_weightOf) := goodIn_app (goodIn_of _ (by decide +kernel)) ggX5_addOne_X5_weightOf
set_option maxRecDepth 20000 in
theorem ggX5_addOne_X5_put : GoodIn wsX5_addOne wsX5_put := goodIn_r _ [15, 11, 16, 17] (by decide +kernel) (by decide +kernel)
set_option maxRecDepth 20000 in
theorem gX5_addOne_X5_put : GoodIn wsX5_addOne (wsV RX5 30 RX5 yX5_put wsX5_put) := goodIn_app (goodIn_of _ (by decide +kernel)) ggX5_addOne_X5_put
theorem dX5_addOne_0 : decode cX5_addOne 0 = .ok (.aload_n 0, 1) := by decide +kernel
theorem dX5_addOne_1 : decode cX5_addOne 1 = .ok (.aload_n 0, 1) := by decide +kernel
theorem dX5_addOne_2 : decode cX5_addOne 2 = .ok (.getfield 9, 3) := by decide +kernel
theorem dX5_addOne_5 : decode cX5_addOne 5 = .ok (.iload_n 1, 1) := by decide +kernel
theorem dX5_addOne_6 : decode cX5_addOne 6 = .ok (.invokestatic 40, 3) := by decide +kernel
theorem dX5_addOne_9 : decode cX5_addOne 9 = .ok (.putfield 9, 3) := by decide +kernel
theorem dX5_addOne_12 : decode cX5_addOne 12 = .ok (.aload_n 0, 1) := by decide +kernel
theorem dX5_addOne_13 : decode cX5_addOne 13 = .ok (.iload_n 1, 1) := by decide +kernel
theorem dX5_addOne_14 : decode cX5_addOne 14 = .ok (.aload_n 0, 1) := by decide +kernel
theorem dX5_addOne_15 : decode cX5_addOne 15 = .ok (.iload_n 1, 1) := by decide +kernel
theorem dX5_addOne_16 : decode cX5_addOne 16 = .ok (.invokevirtual 19, 3) := by decide +kernel
theorem dX5_addOne_19 : decode cX5_addOne 19 = .ok (.iconst 1, 1) := by decide +kernel
theorem dX5_addOne_20 : decode cX5_addOne 20 = .ok (.iadd, 1) := by decide +kernel
theorem dX5_addOne_21 : decode cX5_addOne 21 = .ok (.invokevirtual 30, 3) := by decide +kernel
theorem dX5_addOne_24 : decode cX5_addOne 24 = .ok (.return_, 1) := by decide +kernel
theorem dX5_takeFrom_0 : decode cX5_takeFrom 0 = .ok (.aload_n 0, 1) := by decide +kernel
theorem dX5_takeFrom_1 : decode cX5_takeFrom 1 = .ok (.aload_n 1, 1) := by decide +kernel
theorem dX5_takeFrom_2 : decode cX5_takeFrom 2 = .ok (.getfield 9, 3) := by decide +kernel
theorem dX5_takeFrom_5 : decode cX5_takeFrom 5 = .ok (.putfield 9, 3) := by decide +kernel
theorem dX5_takeFrom_8 : decode cX5_takeFrom 8 = .ok (.aload_n 1, 1) := by decide +kernel
theorem dX5_takeFrom_9 : decode cX5_takeFrom 9 = .ok (.getfield 15, 3) := by decide +kernel
theorem dX5_takeFrom_12 : decode cX5_takeFrom 12 = .ok (.iconst 0, 1) := by decide +kernel
theorem dX5_takeFrom_13 : decode cX5_takeFrom 13 = .ok (.aload_n 0, 1) := by decide +kernel
theorem dX5_takeFrom_14 : decode cX5_takeFrom 14 = .ok (.getfield 15, 3) := by decide +kernel
theorem dX5_takeFrom_17 : decode cX5_takeFrom 17 = .ok (.iconst 0, 1) := by decide +kernel
theorem dX5_takeFrom_18 : decode cX5_takeFrom 18 = .ok (.aload_n 0, 1) := by decide +kernel
theorem dX5_takeFrom_19 : decode cX5_takeFrom 19 = .ok (.getfield 15, 3) := by decide +kernel
theorem dX5_takeFrom_22 : decode cX5_takeFrom 22 = .ok (.arraylength, 1) := by decide +kernel
theorem dX5_takeFrom_23 : decode cX5_takeFrom 23 = .ok (.invokestatic 46, 3) := by decide +kernel
theorem dX5_takeFrom_26 : decode cX5_takeFrom 26 = .ok (.return_, 1) := by decide +kernel
set_option maxRecDepth 20000 in
theorem ggX5_cost_X5_all : GoodIn wsX5_cost wsX5_all := goodIn_r _ [5, 6, 7, 8, 4, 9, 10, 11, 12, 13, 14, 15, 16, 17] (by decide +kernel) (by decide +kernel)
set_option maxRecDepth 20000 in
theorem gX5_cost_X5_all : GoodIn wsX5_cost (wsV RX5 26 RX5 yX5_all wsX5_all) := goodIn_app (goodIn_of _ (by decide +kernel)) ggX5_cost_X5_all
set_option maxRecDepth 20000 in
theorem ggX5_cost_X5_left : GoodIn wsX5_cost wsX5_left := goodIn_r _ [9, 10, 11, 12, 13, 4, 14, 15, 16, 17] (by decide +kernel) (by decide +kernel)
set_option maxRecDepth 20000 in
theorem gX5_cost_X5_left : GoodIn wsX5_cost (wsV RX5 23 RX5 yX5_left wsX5_left) := goodIn_app (goodIn_of _ (by decide +kernel)) ggX5_cost_X5_left
theorem dX5_cost_0 : decode cX5_cost 0 = .ok (.iload_n 2, 1) := by decide +kernel
theorem dX5_cost_1 : decode cX5_cost 1 = .ok (.aload_n 0, 1) := by decide +kernel
theorem dX5_cost_2 : decode cX5_cost 2 = .ok (.invokevirtual 26, 3) := by decide +kernel
theorem dX5_cost_5 : decode cX5_cost 5 = .ok (.aload_n 0, 1) := by decide +kernel
theorem dX5_cost_6 : decode cX5_cost 6 = .ok (.iload_n 1, 1) := by decide +kernel
theorem dX5_cost_7 : decode cX5_cost 7 = .ok (.invokevirtual 23, 3) := by decide +kernel
theorem dX5_cost_10 : decode cX5_cost 10 = .ok (.isub, 1) := by decide +kernel
theorem dX5_cost_11 : decode cX5_cost 11 = .ok (.imul, 1) := by decide +kernel
theorem dX5_cost_12 : decode cX5_cost 12 = .ok (.iload_n 3, 1) := by decide +kernel
theorem dX5_cost_13 : decode cX5_cost 13 = .ok (.aload_n 0, 1) := by decide +kernel
theorem dX5_cost_14 : decode cX5_cost 14 = .ok (.iload_n 1, 1) := by decide +kernel
theorem dX5_cost_15 : decode cX5_cost 15 = .ok (.invokevirtual 23, 3) := by decide +kernel
theorem dX5_cost_18 : decode cX5_cost 18 = .ok (.imul, 1) := by decide +kernel
theorem dX5_cost_19 : decode cX5_cost 19 = .ok (.iadd, 1) := by decide +kernel
theorem dX5_cost_20 : decode cX5_cost 20 = .ok (.ireturn, 1) := by decide +kernel
set_option maxRecDepth 20000 in
theorem ggX5_served_X5_left : GoodIn wsX5_served wsX5_left := goodIn_r _ [5, 6, 7, 8, 9, 4, 10, 11, 12, 13] (by decide +kernel) (by decide +kernel)
set_option maxRecDepth 20000 in
theorem gX5_served_X5_left : GoodIn wsX5_served (wsV RX5 23 RX5 yX5_left wsX5_left) := goodIn_app (goodIn_of _ (by decide +kernel)) ggX5_served_X5_left
theorem dX5_served_0 : decode cX5_served 0 = .ok (.iconst 0, 1) := by decide +kernel
theorem dX5_served_1 : decode cX5_served 1 = .ok (.istore_n 2, 1) := by decide +kernel
theorem dX5_served_2 : decode cX5_served 2 = .ok (.iconst 0, 1) := by decide +kernel
theorem dX5_served_3 : decode cX5_served 3 = .ok (.istore_n 3, 1) := by decide +kernel
theorem dX5_served_4 : decode cX5_served 4 = .ok (.iload_n 3, 1) := by decide +kernel
theorem dX5_served_5 : decode cX5_served 5 = .ok (.iload_n 1, 1) := by decide +kernel
theorem dX5_served_6 : decode cX5_served 6 = .ok (.if_icmp .ge 17, 3) := by decide +kernel
theorem dX5_served_9 : decode cX5_served 9 = .ok (.iload_n 2, 1) := by decide +kernel
theorem dX5_served_10 : decode cX5_served 10 = .ok (.aload_n 0, 1) := by decide +kernel
theorem dX5_served_11 : decode cX5_served 11 = .ok (.iload_n 3, 1) := by decide +kernel
theorem dX5_served_12 : decode cX5_served 12 = .ok (.invokevirtual 23, 3) := by decide +kernel
theorem dX5_served_15 : decode cX5_served 15 = .ok (.iadd, 1) := by decide +kernel
theorem dX5_served_16 : decode cX5_served 16 = .ok (.istore_n 2, 1) := by decide +kernel
theorem dX5_served_17 : decode cX5_served 17 = .ok (.iinc 3 1, 3) := by decide +kernel
theorem dX5_served_20 : decode cX5_served 20 = .ok (.goto (-16), 3) := by decide +kernel
theorem dX5_served_23 : decode cX5_served 23 = .ok (.iload_n 2, 1) := by decide +kernel
theorem dX5_served_24 : decode cX5_served 24 = .ok (.ireturn, 1) := by decide +kernel
set_option maxRecDepth 20000 in
theorem ggX5_bestAge_X5_cost : GoodIn wsX5_bestAge wsX5_cost := goodIn_r _ [6, 7, 8, 9, 5, 10, 11, 12, 13, 14, 1, 15, 16, 17, 18, 19, 24, 25] (by decide +kernel) (by decide +kernel)
set_option maxRecDepth 20000 in
theorem gX5_bestAge_X5_cost : GoodIn wsX5_bestAge (wsV RX5 52 RX5 yX5_cost wsX5_cost) := goodIn_app (goodIn_of _ (by decide +kernel)) ggX5_bestAge_X5_cost
set_option maxRecDepth 20000 in
theorem ggX5_bestAge_X5_served : GoodIn wsX5_bestAge wsX5_served := goodIn_r _ [23, 11, 12, 13, 5, 14, 1, 15, 16, 17, 18, 19, 24, 25] (by decide +kernel) (by decide +kernel)
set_option maxRecDepth 20000 in
theorem gX5_bestAge_X5_served : GoodIn wsX5_bestAge (wsV RX5 56 RX5 yX5_served wsX5_served) := goodIn_app (goodIn_of _ (by decide +kernel)) ggX5_bestAge_X5_served
theorem dX5_bestAge_0 : decode cX5_bestAge 0 = .ok (.iconst 1, 1) := by decide +kernel
theorem dX5_bestAge_1 : decode cX5_bestAge 1 = .ok (.istore_n 3, 1) := by decide +kernel
theorem dX5_bestAge_2 : decode cX5_bestAge 2 = .ok (.iconst 2, 1) := by decide +kernel
theorem dX5_bestAge_3 : decode cX5_bestAge 3 = .ok (.istore 4, 2) := by decide +kernel
theorem dX5_bestAge_5 : decode cX5_bestAge 5 = .ok (.iload 4, 2) := by decide +kernel
theorem dX5_bestAge_7 : decode cX5_bestAge 7 = .ok (.aload_n 0, 1) := by decide +kernel
theorem dX5_bestAge_8 : decode cX5_bestAge 8 = .ok (.getfield 9, 3) := by decide +kernel
theorem dX5_bestAge_11 : decode cX5_bestAge 11 = .ok (.if_icmp .gt 43, 3) := by decide +kernel
theorem dX5_bestAge_14 : decode cX5_bestAge 14 = .ok (.aload_n 0, 1) := by decide +kernel
theorem dX5_bestAge_15 : decode cX5_bestAge 15 = .ok (.iload 4, 2) := by decide +kernel
theorem dX5_bestAge_17 : decode cX5_bestAge 17 = .ok (.iload_n 1, 1) := by decide +kernel
theorem dX5_bestAge_18 : decode cX5_bestAge 18 = .ok (.iload_n 2, 1) := by decide +kernel
theorem dX5_bestAge_19 : decode cX5_bestAge 19 = .ok (.invokevirtual 52, 3) := by decide +kernel
theorem dX5_bestAge_22 : decode cX5_bestAge 22 = .ok (.aload_n 0, 1) := by decide +kernel
theorem dX5_bestAge_23 : decode cX5_bestAge 23 = .ok (.iload_n 3, 1) := by decide +kernel
theorem dX5_bestAge_24 : decode cX5_bestAge 24 = .ok (.invokevirtual 56, 3) := by decide +kernel
theorem dX5_bestAge_27 : decode cX5_bestAge 27 = .ok (.imul, 1) := by decide +kernel
theorem dX5_bestAge_28 : decode cX5_bestAge 28 = .ok (.aload_n 0, 1) := by decide +kernel
theorem dX5_bestAge_29 : decode cX5_bestAge 29 = .ok (.iload_n 3, 1) := by decide +kernel
theorem dX5_bestAge_30 : decode cX5_bestAge 30 = .ok (.iload_n 1, 1) := by decide +kernel
theorem dX5_bestAge_31 : decode cX5_bestAge 31 = .ok (.iload_n 2, 1) := by decide +kernel
theorem dX5_bestAge_32 : decode cX5_bestAge 32 = .ok (.invokevirtual 52, 3) := by decide +kernel
theorem dX5_bestAge_35 : decode cX5_bestAge 35 = .ok (.aload_n 0, 1) := by decide +kernel
theorem dX5_bestAge_36 : decode cX5_bestAge 36 = .ok (.iload 4, 2) := by decide +kernel
theorem dX5_bestAge_38 : decode cX5_bestAge 38 = .ok (.invokevirtual 56, 3) := by decide +kernel
theorem dX5_bestAge_41 : decode cX5_bestAge 41 = .ok (.imul, 1) := by decide +kernel
theorem dX5_bestAge_42 : decode cX5_bestAge 42 = .ok (.if_icmp .ge 6, 3) := by decide +kernel
theorem dX5_bestAge_45 : decode cX5_bestAge 45 = .ok (.iload 4, 2) := by decide +kernel
theorem dX5_bestAge_47 : decode cX5_bestAge 47 = .ok (.istore_n 3, 1) := by decide +kernel
theorem dX5_bestAge_48 : decode cX5_bestAge 48 = .ok (.iinc 4 1, 3) := by decide +kernel
theorem dX5_bestAge_51 : decode cX5_bestAge 51 = .ok (.goto (-46), 3) := by decide +kernel
theorem dX5_bestAge_54 : decode cX5_bestAge 54 = .ok (.iload_n 3, 1) := by decide +kernel
theorem dX5_bestAge_55 : decode cX5_bestAge 55 = .ok (.ireturn, 1) := by decide +kernel
set_option maxRecDepth 20000 in
theorem ggX5_trend_X5_weightOf : GoodIn wsX5_trend wsX5_weightOf := goodIn_r _ [6, 1, 7, 12, 13] (by decide +kernel) (by decide +kernel)
set_option maxRecDepth 20000 in
theorem gX5_trend_X5_weightOf : GoodIn wsX5_trend (wsV RX5 19 RX5 yX5_weightOf wsX5_weightOf) := goodIn_app (goodIn_of _ (by decide +kernel)) ggX5_trend_X5_weightOf
set_option maxRecDepth 20000 in
theorem ggX5_trend_X5_left : GoodIn wsX5_trend wsX5_left := goodIn_r _ [11, 1, 2, 3, 4, 5, 6, 7, 12, 13] (by decide +kernel) (by decide +kernel)
set_option maxRecDepth 20000 in
theorem gX5_trend_X5_left : GoodIn wsX5_trend (wsV RX5 23 RX5 yX5_left wsX5_left) := goodIn_app (goodIn_of _ (by decide +kernel)) ggX5_trend_X5_left
theorem dX5_trend_0 : decode cX5_trend 0 = .ok (.iconst 1, 1) := by decide +kernel
theorem dX5_trend_1 : decode cX5_trend 1 = .ok (.istore_n 1, 1) := by decide +kernel
theorem dX5_trend_2 : decode cX5_trend 2 = .ok (.iconst 1, 1) := by decide +kernel
theorem dX5_trend_3 : decode cX5_trend 3 = .ok (.istore_n 2, 1) := by decide +kernel
theorem dX5_trend_4 : decode cX5_trend 4 = .ok (.iconst 2, 1) := by decide +kernel
theorem dX5_trend_5 : decode cX5_trend 5 = .ok (.istore_n 3, 1) := by decide +kernel
theorem dX5_trend_6 : decode cX5_trend 6 = .ok (.iload_n 3, 1) := by decide +kernel
theorem dX5_trend_7 : decode cX5_trend 7 = .ok (.aload_n 0, 1) := by decide +kernel
theorem dX5_trend_8 : decode cX5_trend 8 = .ok (.getfield 9, 3) := by decide +kernel
theorem dX5_trend_11 : decode cX5_trend 11 = .ok (.if_icmp .gt 83, 3) := by decide +kernel
theorem dX5_trend_14 : decode cX5_trend 14 = .ok (.aload_n 0, 1) := by decide +kernel
theorem dX5_trend_15 : decode cX5_trend 15 = .ok (.iload_n 3, 1) := by decide +kernel
theorem dX5_trend_16 : decode cX5_trend 16 = .ok (.invokevirtual 19, 3) := by decide +kernel
theorem dX5_trend_19 : decode cX5_trend 19 = .ok (.aload_n 0, 1) := by decide +kernel
theorem dX5_trend_20 : decode cX5_trend 20 = .ok (.iload_n 3, 1) := by decide +kernel
theorem dX5_trend_21 : decode cX5_trend 21 = .ok (.iconst 2, 1) := by decide +kernel
theorem dX5_trend_22 : decode cX5_trend 22 = .ok (.isub, 1) := by decide +kernel
theorem dX5_trend_23 : decode cX5_trend 23 = .ok (.invokevirtual 23, 3) := by decide +kernel
theorem dX5_trend_26 : decode cX5_trend 26 = .ok (.imul, 1) := by decide +kernel
theorem dX5_trend_27 : decode cX5_trend 27 = .ok (.istore 4, 2) := by decide +kernel
theorem dX5_trend_29 : decode cX5_trend 29 = .ok (.aload_n 0, 1) := by decide +kernel
theorem dX5_trend_30 : decode cX5_trend 30 = .ok (.iload_n 3, 1) := by decide +kernel
theorem dX5_trend_31 : decode cX5_trend 31 = .ok (.iconst 1, 1) := by decide +kernel
theorem dX5_trend_32 : decode cX5_trend 32 = .ok (.isub, 1) := by decide +kernel
theorem dX5_trend_33 : decode cX5_trend 33 = .ok (.invokevirtual 19, 3) := by decide +kernel
theorem dX5_trend_36 : decode cX5_trend 36 = .ok (.aload_n 0, 1) := by decide +kernel
theorem dX5_trend_37 : decode cX5_trend 37 = .ok (.iload_n 3, 1) := by decide +kernel
theorem dX5_trend_38 : decode cX5_trend 38 = .ok (.iconst 1, 1) := by decide +kernel
theorem dX5_trend_39 : decode cX5_trend 39 = .ok (.isub, 1) := by decide +kernel
theorem dX5_trend_40 : decode cX5_trend 40 = .ok (.invokevirtual 23, 3) := by decide +kernel
theorem dX5_trend_43 : decode cX5_trend 43 = .ok (.imul, 1) := by decide +kernel
theorem dX5_trend_44 : decode cX5_trend 44 = .ok (.istore 5, 2) := by decide +kernel
theorem dX5_trend_46 : decode cX5_trend 46 = .ok (.iload_n 1, 1) := by decide +kernel
theorem dX5_trend_47 : decode cX5_trend 47 = .ok (.ifCond .eq 14, 3) := by decide +kernel
theorem dX5_trend_50 : decode cX5_trend 50 = .ok (.iload 4, 2) := by decide +kernel
theorem dX5_trend_52 : decode cX5_trend 52 = .ok (.iload 5, 2) := by decide +kernel
theorem dX5_trend_54 : decode cX5_trend 54 = .ok (.if_icmp .lt 7, 3) := by decide +kernel
theorem dX5_trend_57 : decode cX5_trend 57 = .ok (.iconst 1, 1) := by decide +kernel
theorem dX5_trend_58 : decode cX5_trend 58 = .ok (.goto 4, 3) := by decide +kernel
theorem dX5_trend_61 : decode cX5_trend 61 = .ok (.iconst 0, 1) := by decide +kernel
theorem dX5_trend_62 : decode cX5_trend 62 = .ok (.istore_n 1, 1) := by decide +kernel
theorem dX5_trend_63 : decode cX5_trend 63 = .ok (.iload_n 2, 1) := by decide +kernel
theorem dX5_trend_64 : decode cX5_trend 64 = .ok (.ifCond .eq 22, 3) := by decide +kernel
theorem dX5_trend_67 : decode cX5_trend 67 = .ok (.iload 4, 2) := by decide +kernel
theorem dX5_trend_69 : decode cX5_trend 69 = .ok (.iload 5, 2) := by decide +kernel
theorem dX5_trend_71 : decode cX5_trend 71 = .ok (.if_icmp .le 11, 3) := by decide +kernel
theorem dX5_trend_74 : decode cX5_trend 74 = .ok (.iload_n 3, 1) := by decide +kernel
theorem dX5_trend_75 : decode cX5_trend 75 = .ok (.aload_n 0, 1) := by decide +kernel
theorem dX5_trend_76 : decode cX5_trend 76 = .ok (.getfield 9, 3) := by decide +kernel
theorem dX5_trend_79 : decode cX5_trend 79 = .ok (.if_icmp .ne 7, 3) := by decide +kernel
theorem dX5_trend_82 : decode cX5_trend 82 = .ok (.iconst 1, 1) := by decide +kernel
theorem dX5_trend_83 : decode cX5_trend 83 = .ok (.goto 4, 3) := by decide +kernel
theorem dX5_trend_86 : decode cX5_trend 86 = .ok (.iconst 0, 1) := by decide +kernel
theorem dX5_trend_87 : decode cX5_trend 87 = .ok (.istore_n 2, 1) := by decide +kernel
theorem dX5_trend_88 : decode cX5_trend 88 = .ok (.iinc 3 1, 3) := by decide +kernel
theorem dX5_trend_91 : decode cX5_trend 91 = .ok (.goto (-85), 3) := by decide +kernel
theorem dX5_trend_94 : decode cX5_trend 94 = .ok (.iload_n 1, 1) := by decide +kernel
theorem dX5_trend_95 : decode cX5_trend 95 = .ok (.ifCond .eq 7, 3) := by decide +kernel
theorem dX5_trend_98 : decode cX5_trend 98 = .ok (.iconst 1, 1) := by decide +kernel
theorem dX5_trend_99 : decode cX5_trend 99 = .ok (.goto 4, 3) := by decide +kernel
theorem dX5_trend_102 : decode cX5_trend 102 = .ok (.iconst 0, 1) := by decide +kernel
theorem dX5_trend_103 : decode cX5_trend 103 = .ok (.iload_n 2, 1) := by decide +kernel
theorem dX5_trend_104 : decode cX5_trend 104 = .ok (.ifCond .eq 7, 3) := by decide +kernel
theorem dX5_trend_107 : decode cX5_trend 107 = .ok (.iconst 2, 1) := by decide +kernel
theorem dX5_trend_108 : decode cX5_trend 108 = .ok (.goto 4, 3) := by decide +kernel
theorem dX5_trend_111 : decode cX5_trend 111 = .ok (.iconst 0, 1) := by decide +kernel
theorem dX5_trend_112 : decode cX5_trend 112 = .ok (.iadd, 1) := by decide +kernel
theorem dX5_trend_113 : decode cX5_trend 113 = .ok (.ireturn, 1) := by decide +kernel
set_option maxRecDepth 20000 in
theorem ggX6_init_X5_init : GoodIn wsX6_init wsX5_init := goodIn_r _ [11, 12, 2, 3, 13, 14, 15, 25, 26] (by decide +kernel) (by decide +kernel)
set_option maxRecDepth 20000 in
theorem gX6_init_X5_init_n17 : GoodIn wsX6_init (wsX5_init) := ggX6_init_X5_init
theorem dX6_init_0 : decode cX6_init 0 = .ok (.aload_n 0, 1) := by decide +kernel
theorem dX6_init_1 : decode cX6_init 1 = .ok (.invokespecial 3, 3) := by decide +kernel
theorem dX6_init_4 : decode cX6_init 4 = .ok (.aload_n 0, 1) := by decide +kernel
theorem dX6_init_5 : decode cX6_init 5 = .ok (.bipush 60, 2) := by decide +kernel
theorem dX6_init_7 : decode cX6_init 7 = .ok (.newarray .char, 2) := by decide +kernel
theorem dX6_init_9 : decode cX6_init 9 = .ok (.putfield 9, 3) := by decide +kernel
theorem dX6_init_12 : decode cX6_init 12 = .ok (.aload_n 0, 1) := by decide +kernel
theorem dX6_init_13 : decode cX6_init 13 = .ok (.new 15, 3) := by decide +kernel
theorem dX6_init_16 : decode cX6_init 16 = .ok (.dup, 1) := by decide +kernel
theorem dX6_init_17 : decode cX6_init 17 = .ok (.invokespecial 17, 3) := by decide +kernel
theorem dX6_init_20 : decode cX6_init 20 = .ok (.putfield 18, 3) := by decide +kernel
theorem dX6_init_23 : decode cX6_init 23 = .ok (.return_, 1) := by decide +kernel
theorem dX6_add_0 : decode cX6_add 0 = .ok (.aload_n 0, 1) := by decide +kernel
theorem dX6_add_1 : decode cX6_add 1 = .ok (.getfield 22, 3) := by decide +kernel
theorem dX6_add_4 : decode cX6_add 4 = .ok (.ifCond .lt 15, 3) := by decide +kernel
theorem dX6_add_7 : decode cX6_add 7 = .ok (.aload_n 0, 1) := by decide +kernel
theorem dX6_add_8 : decode cX6_add 8 = .ok (.getfield 22, 3) := by decide +kernel
theorem dX6_add_11 : decode cX6_add 11 = .ok (.aload_n 0, 1) := by decide +kernel
theorem dX6_add_12 : decode cX6_add 12 = .ok (.getfield 9, 3) := by decide +kernel
theorem dX6_add_15 : decode cX6_add 15 = .ok (.arraylength, 1) := by decide +kernel
theorem dX6_add_16 : decode cX6_add 16 = .ok (.if_icmp .lt 5, 3) := by decide +kernel
theorem dX6_add_19 : decode cX6_add 19 = .ok (.iconst 0, 1) := by decide +kernel
theorem dX6_add_20 : decode cX6_add 20 = .ok (.ireturn, 1) := by decide +kernel
theorem dX6_add_21 : decode cX6_add 21 = .ok (.aload_n 0, 1) := by decide +kernel
theorem dX6_add_22 : decode cX6_add 22 = .ok (.getfield 9, 3) := by decide +kernel
theorem dX6_add_25 : decode cX6_add 25 = .ok (.aload_n 0, 1) := by decide +kernel
theorem dX6_add_26 : decode cX6_add 26 = .ok (.getfield 22, 3) := by decide +kernel
theorem dX6_add_29 : decode cX6_add 29 = .ok (.iload_n 1, 1) := by decide +kernel
theorem dX6_add_30 : decode cX6_add 30 = .ok (.castore, 1) := by decide +kernel
theorem dX6_add_31 : decode cX6_add 31 = .ok (.aload_n 0, 1) := by decide +kernel
theorem dX6_add_32 : decode cX6_add 32 = .ok (.dup, 1) := by decide +kernel
theorem dX6_add_33 : decode cX6_add 33 = .ok (.getfield 22, 3) := by decide +kernel
theorem dX6_add_36 : decode cX6_add 36 = .ok (.iconst 1, 1) := by decide +kernel
theorem dX6_add_37 : decode cX6_add 37 = .ok (.iadd, 1) := by decide +kernel
theorem dX6_add_38 : decode cX6_add 38 = .ok (.putfield 22, 3) := by decide +kernel
theorem dX6_add_41 : decode cX6_add 41 = .ok (.iconst 1, 1) := by decide +kernel
theorem dX6_add_42 : decode cX6_add 42 = .ok (.ireturn, 1) := by decide +kernel
set_option maxRecDepth 20000 in
theorem ggX6_scan_X6_scanWeights : GoodIn wsX6_scan wsX6_scanWeights := goodIn_r _ [11, 4, 1, 5, 6, 12, 13, 14, 15, 16, 17, 18, 19, 20, 21, 22, 23, 24, 25, 10, 26, 27, 28, 29, 30, 3, 31, 32, 33, 34, 35, 36, 37, 38, 39, 40, 41, 42, 43, 44, 45, 46, 47, 48, 49, 50, 51, 52, 53, 54, 55, 56, 72, 73, 74, 75, 76, 77, 78, 79, 80, 81, 82] (by decide +kernel) (by decide +kernel)
set_option maxRecDepth 20000 in
theorem gX6_scan_X6_scanWeights : GoodIn wsX6_scan (wsV RX6 33 RX6 yX6_scanWeights wsX6_scanWeights) := goodIn_app (goodIn_of _ (by decide +kernel)) ggX6_scan_X6_scanWeights
set_option maxRecDepth 20000 in
theorem ggX6_scan_X6_scanSign : GoodIn wsX6_scan wsX6_scanSign := goodIn_r _ [60, 1, 23, 24, 25, 10, 26, 27, 28, 29, 30, 3, 31, 48, 49, 50, 51, 52, 72, 73, 74, 75, 76, 77, 78, 79, 80] (by decide +kernel) (by decide +kernel)
set_option maxRecDepth 20000 in
theorem gX6_scan_X6_scanSign : GoodIn wsX6_scan (wsV RX6 37 RX6 yX6_scanSign wsX6_scanSign) := goodIn_app (goodIn_of _ (by decide +kernel)) ggX6_scan_X6_scanSign
set_option maxRecDepth 20000 in
theorem ggX6_scan_X6_scanCosts : GoodIn wsX6_scan wsX6_scanCosts := goodIn_r _ [64, 65, 1, 66, 2, 3, 67, 68, 69, 10, 70, 23, 24, 25, 26, 27, 28, 29, 30, 31, 32, 33, 34, 35, 48, 49, 50, 51, 52, 57, 58, 59, 60, 72, 73, 74, 75, 76, 77, 78, 79, 80] (by decide +kernel) (by decide +kernel)
set_option maxRecDepth 20000 in
theorem gX6_scan_X6_scanCosts : GoodIn wsX6_scan (wsV RX6 41 RX6 yX6_scanCosts wsX6_scanCosts) := goodIn_app (goodIn_of _ (by decide +kernel)) ggX6_scan_X6_scanCosts
set_option maxRecDepth 20000 in
theorem ggX6_scan_X5_weightOf : GoodIn wsX6_scan wsX5_weightOf := goodIn_r _ [47, 17, 18, 81, 82] (by decide +kernel) (by decide +kernel)
set_option maxRecDepth 20000 in
theorem gX6_scan_X5_weightOf : GoodIn wsX6_scan (wsV RX6 47 RX5 yX5_weightOf wsX5_weightOf) := goodIn_app (goodIn_of _ (by decide +kernel)) ggX6_scan_X5_weightOf
set_option maxRecDepth 20000 in
theorem ggX6_scan_X6_faultAt : GoodIn wsX6_scan wsX6_faultAt := goodIn_r _ [51, 52, 72, 73, 74, 75, 76, 77, 78, 79, 80] (by decide +kernel) (by decide +kernel)
set_option maxRecDepth 20000 in
theorem gX6_scan_X6_faultAt : GoodIn wsX6_scan (wsV RX6 54 RX6 yX6_faultAt wsX6_faultAt) := goodIn_app (goodIn_of _ (by decide +kernel)) ggX6_scan_X6_faultAt
theorem dX6_scan_0 : decode cX6_scan 0 = .ok (.aload_n 0, 1) := by decide +kernel
theorem dX6_scan_1 : decode cX6_scan 1 = .ok (.iconst 0, 1) := by decide +kernel
theorem dX6_scan_2 : decode cX6_scan 2 = .ok (.putfield 26, 3) := by decide +kernel
theorem dX6_scan_5 : decode cX6_scan 5 = .ok (.aload_n 0, 1) := by decide +kernel
theorem dX6_scan_6 : decode cX6_scan 6 = .ok (.iconst 0, 1) := by decide +kernel
theorem dX6_scan_7 : decode cX6_scan 7 = .ok (.putfield 29, 3) := by decide +kernel
theorem dX6_scan_10 : decode cX6_scan 10 = .ok (.aload_n 0, 1) := by decide +kernel
theorem dX6_scan_11 : decode cX6_scan 11 = .ok (.invokevirtual 33, 3) := by decide +kernel
theorem dX6_scan_14 : decode cX6_scan 14 = .ok (.ifCond .ne 5, 3) := by decide +kernel
theorem dX6_scan_17 : decode cX6_scan 17 = .ok (.iconst 0, 1) := by decide +kernel
theorem dX6_scan_18 : decode cX6_scan 18 = .ok (.ireturn, 1) := by decide +kernel
theorem dX6_scan_19 : decode cX6_scan 19 = .ok (.aload_n 0, 1) := by decide +kernel
theorem dX6_scan_20 : decode cX6_scan 20 = .ok (.getfield 26, 3) := by decide +kernel
theorem dX6_scan_23 : decode cX6_scan 23 = .ok (.aload_n 0, 1) := by decide +kernel
theorem dX6_scan_24 : decode cX6_scan 24 = .ok (.getfield 22, 3) := by decide +kernel
theorem dX6_scan_27 : decode cX6_scan 27 = .ok (.if_icmp .ge 21, 3) := by decide +kernel
theorem dX6_scan_30 : decode cX6_scan 30 = .ok (.aload_n 0, 1) := by decide +kernel
theorem dX6_scan_31 : decode cX6_scan 31 = .ok (.bipush 59, 2) := by decide +kernel
theorem dX6_scan_33 : decode cX6_scan 33 = .ok (.invokevirtual 37, 3) := by decide +kernel
theorem dX6_scan_36 : decode cX6_scan 36 = .ok (.ifCond .eq 10, 3) := by decide +kernel
theorem dX6_scan_39 : decode cX6_scan 39 = .ok (.aload_n 0, 1) := by decide +kernel
theorem dX6_scan_40 : decode cX6_scan 40 = .ok (.invokevirtual 41, 3) := by decide +kernel
theorem dX6_scan_43 : decode cX6_scan 43 = .ok (.ifCond .ne 5, 3) := by decide +kernel
theorem dX6_scan_46 : decode cX6_scan 46 = .ok (.iconst 0, 1) := by decide +kernel
theorem dX6_scan_47 : decode cX6_scan 47 = .ok (.ireturn, 1) := by decide +kernel
theorem dX6_scan_48 : decode cX6_scan 48 = .ok (.aload_n 0, 1) := by decide +kernel
theorem dX6_scan_49 : decode cX6_scan 49 = .ok (.getfield 18, 3) := by decide +kernel
theorem dX6_scan_52 : decode cX6_scan 52 = .ok (.aload_n 0, 1) := by decide +kernel
theorem dX6_scan_53 : decode cX6_scan 53 = .ok (.getfield 18, 3) := by decide +kernel
theorem dX6_scan_56 : decode cX6_scan 56 = .ok (.getfield 44, 3) := by decide +kernel
theorem dX6_scan_59 : decode cX6_scan 59 = .ok (.invokevirtual 47, 3) := by decide +kernel
theorem dX6_scan_62 : decode cX6_scan 62 = .ok (.ifCond .gt 14, 3) := by decide +kernel
theorem dX6_scan_65 : decode cX6_scan 65 = .ok (.aload_n 0, 1) := by decide +kernel
theorem dX6_scan_66 : decode cX6_scan 66 = .ok (.aload_n 0, 1) := by decide +kernel
theorem dX6_scan_67 : decode cX6_scan 67 = .ok (.getfield 51, 3) := by decide +kernel
theorem dX6_scan_70 : decode cX6_scan 70 = .ok (.invokevirtual 54, 3) := by decide +kernel
theorem dX6_scan_73 : decode cX6_scan 73 = .ok (.ifCond .eq 7, 3) := by decide +kernel
theorem dX6_scan_76 : decode cX6_scan 76 = .ok (.iconst 1, 1) := by decide +kernel
theorem dX6_scan_77 : decode cX6_scan 77 = .ok (.goto 4, 3) := by decide +kernel
theorem dX6_scan_80 : decode cX6_scan 80 = .ok (.iconst 0, 1) := by decide +kernel
theorem dX6_scan_81 : decode cX6_scan 81 = .ok (.ireturn, 1) := by decide +kernel
set_option maxRecDepth 20000 in
theorem ggX6_scanWeights_X5_empty : GoodIn wsX6_scanWeights wsX5_empty := goodIn_r _ [9, 10, 11, 12, 13, 14, 15, 61, 62] (by decide +kernel) (by decide +kernel)
set_option maxRecDepth 20000 in
theorem gX6_scanWeights_X5_empty : GoodIn wsX6_scanWeights (wsV RX6 58 RX5 yX5_empty wsX5_empty) := goodIn_app (goodIn_of _ (by decide +kernel)) ggX6_scanWeights_X5_empty
set_option maxRecDepth 20000 in
theorem ggX6_scanWeights_X6_skipBlanks : GoodIn wsX6_scanWeights wsX6_skipBlanks := goodIn_r _ [20, 2, 21, 22, 23, 19, 24, 25, 26, 52, 53, 54, 55, 56, 57, 58, 59, 60] (by decide +kernel) (by decide +kernel)
set_option maxRecDepth 20000 in
theorem gX6_scanWeights_X6_skipBlanks : GoodIn wsX6_scanWeights (wsV RX6 61 RX6 yX6_skipBlanks wsX6_skipBlanks) := goodIn_app (goodIn_of _ (by decide +kernel)) ggX6_scanWeights_X6_skipBlanks
set_option maxRecDepth 20000 in
theorem ggX6_scanWeights_X6_figure : GoodIn wsX6_scanWeights wsX6_figure := goodIn_r _ [30, 21, 22, 23, 19, 24, 2, 25, 26, 52, 53, 54, 55, 56, 57, 58, 59, 60] (by decide +kernel) (by decide +kernel)
set_option maxRecDepth 20000 in
theorem gX6_scanWeights_X6_figure : GoodIn wsX6_scanWeights (wsV RX6 64 RX6 yX6_figure wsX6_figure) := goodIn_app (goodIn_of _ (by decide +kernel)) ggX6_scanWeights_X6_figure
set_option maxRecDepth 20000 in
theorem ggX6_scanWeights_X5_all : GoodIn wsX6_scanWeights wsX5_all := goodIn_r _ [34, 35, 36, 37, 8, 38, 10, 39, 40, 41, 42, 11, 61, 62] (by decide +kernel) (by decide +kernel)
set_option maxRecDepth 20000 in
theorem gX6_scanWeights_X5_all : GoodIn wsX6_scanWeights (wsV RX6 68 RX5 yX5_all wsX5_all) := goodIn_app (goodIn_of _ (by decide +kernel)) ggX6_scanWeights_X5_all
set_option maxRecDepth 20000 in
theorem ggX6_scanWeights_X6_faultAt : GoodIn wsX6_scanWeights wsX6_faultAt := goodIn_r _ [46, 47, 52, 53, 54, 55, 56, 57, 58, 59, 60] (by decide +kernel) (by decide +kernel)
set_option maxRecDepth 20000 in
theorem gX6_scanWeights_X6_faultAt : GoodIn wsX6_scanWeights (wsV RX6 54 RX6 yX6_faultAt wsX6_faultAt) := goodIn_app (goodIn_of _ (by decide +kernel)) ggX6_scanWeights_X6_faultAt
set_option maxRecDepth 20000 in
theorem ggX6_scanWeights_X5_put : GoodIn wsX6_scanWeights wsX5_put := goodIn_r _ [51, 11, 61, 62] (by decide +kernel) (by decide +kernel)
set_option maxRecDepth 20000 in
theorem gX6_scanWeights_X5_put : GoodIn wsX6_scanWeights (wsV RX6 71 RX5 yX5_put wsX5_put) := goodIn_app (goodIn_of _ (by decide +kernel)) ggX6_scanWeights_X5_put
set_option maxRecDepth 20000 in
theorem ggX6_scanWeights_X6_letter : GoodIn wsX6_scanWeights wsX6_letter := goodIn_r _ [24, 2, 25, 26, 52, 53, 54, 55, 56, 57, 58, 59, 60] (by decide +kernel) (by decide +kernel)
set_option maxRecDepth 20000 in
theorem gX6_scanWeights_X6_letter : GoodIn wsX6_scanWeights (wsV RX6 75 RX6 yX6_letter wsX6_letter) := goodIn_app (goodIn_of _ (by decide +kernel)) ggX6_scanWeights_X6_letter
theorem dX6_scanWeights_0 : decode cX6_scanWeights 0 = .ok (.aload_n 0, 1) := by decide +kernel
theorem dX6_scanWeights_1 : decode cX6_scanWeights 1 = .ok (.getfield 18, 3) := by decide +kernel
theorem dX6_scanWeights_4 : decode cX6_scanWeights 4 = .ok (.invokevirtual 58, 3) := by decide +kernel
theorem dX6_scanWeights_7 : decode cX6_scanWeights 7 = .ok (.iconst 1, 1) := by decide +kernel
theorem dX6_scanWeights_8 : decode cX6_scanWeights 8 = .ok (.istore_n 1, 1) := by decide +kernel
theorem dX6_scanWeights_9 : decode cX6_scanWeights 9 = .ok (.iload_n 1, 1) := by decide +kernel
theorem dX6_scanWeights_10 : decode cX6_scanWeights 10 = .ok (.bipush 8, 2) := by decide +kernel
theorem dX6_scanWeights_12 : decode cX6_scanWeights 12 = .ok (.if_icmp .gt 111, 3) := by decide +kernel
theorem dX6_scanWeights_15 : decode cX6_scanWeights 15 = .ok (.aload_n 0, 1) := by decide +kernel
theorem dX6_scanWeights_16 : decode cX6_scanWeights 16 = .ok (.invokevirtual 61, 3) := by decide +kernel
theorem dX6_scanWeights_19 : decode cX6_scanWeights 19 = .ok (.aload_n 0, 1) := by decide +kernel
theorem dX6_scanWeights_20 : decode cX6_scanWeights 20 = .ok (.invokevirtual 64, 3) := by decide +kernel
theorem dX6_scanWeights_23 : decode cX6_scanWeights 23 = .ok (.istore_n 2, 1) := by decide +kernel
theorem dX6_scanWeights_24 : decode cX6_scanWeights 24 = .ok (.iload_n 2, 1) := by decide +kernel
theorem dX6_scanWeights_25 : decode cX6_scanWeights 25 = .ok (.ifCond .lt 17, 3) := by decide +kernel
theorem dX6_scanWeights_28 : decode cX6_scanWeights 28 = .ok (.aload_n 0, 1) := by decide +kernel
theorem dX6_scanWeights_29 : decode cX6_scanWeights 29 = .ok (.getfield 18, 3) := by decide +kernel
theorem dX6_scanWeights_32 : decode cX6_scanWeights 32 = .ok (.invokevirtual 68, 3) := by decide +kernel
theorem dX6_scanWeights_35 : decode cX6_scanWeights 35 = .ok (.iload_n 2, 1) := by decide +kernel
theorem dX6_scanWeights_36 : decode cX6_scanWeights 36 = .ok (.iadd, 1) := by decide +kernel
theorem dX6_scanWeights_37 : decode cX6_scanWeights 37 = .ok (.bipush 24, 2) := by decide +kernel
theorem dX6_scanWeights_39 : decode cX6_scanWeights 39 = .ok (.if_icmp .le 12, 3) := by decide +kernel
theorem dX6_scanWeights_42 : decode cX6_scanWeights 42 = .ok (.aload_n 0, 1) := by decide +kernel
theorem dX6_scanWeights_43 : decode cX6_scanWeights 43 = .ok (.aload_n 0, 1) := by decide +kernel
theorem dX6_scanWeights_44 : decode cX6_scanWeights 44 = .ok (.getfield 26, 3) := by decide +kernel
theorem dX6_scanWeights_47 : decode cX6_scanWeights 47 = .ok (.invokevirtual 54, 3) := by decide +kernel
theorem dX6_scanWeights_50 : decode cX6_scanWeights 50 = .ok (.ireturn, 1) := by decide +kernel
theorem dX6_scanWeights_51 : decode cX6_scanWeights 51 = .ok (.aload_n 0, 1) := by decide +kernel
theorem dX6_scanWeights_52 : decode cX6_scanWeights 52 = .ok (.getfield 18, 3) := by decide +kernel
theorem dX6_scanWeights_55 : decode cX6_scanWeights 55 = .ok (.iload_n 1, 1) := by decide +kernel
theorem dX6_scanWeights_56 : decode cX6_scanWeights 56 = .ok (.putfield 44, 3) := by decide +kernel
theorem dX6_scanWeights_59 : decode cX6_scanWeights 59 = .ok (.aload_n 0, 1) := by decide +kernel
theorem dX6_scanWeights_60 : decode cX6_scanWeights 60 = .ok (.getfield 18, 3) := by decide +kernel
theorem dX6_scanWeights_63 : decode cX6_scanWeights 63 = .ok (.iload_n 1, 1) := by decide +kernel
theorem dX6_scanWeights_64 : decode cX6_scanWeights 64 = .ok (.iload_n 2, 1) := by decide +kernel
theorem dX6_scanWeights_65 : decode cX6_scanWeights 65 = .ok (.invokevirtual 71, 3) := by decide +kernel
theorem dX6_scanWeights_68 : decode cX6_scanWeights 68 = .ok (.aload_n 0, 1) := by decide +kernel
theorem dX6_scanWeights_69 : decode cX6_scanWeights 69 = .ok (.aload_n 0, 1) := by decide +kernel
theorem dX6_scanWeights_70 : decode cX6_scanWeights 70 = .ok (.getfield 26, 3) := by decide +kernel
theorem dX6_scanWeights_73 : decode cX6_scanWeights 73 = .ok (.putfield 51, 3) := by decide +kernel
theorem dX6_scanWeights_76 : decode cX6_scanWeights 76 = .ok (.aload_n 0, 1) := by decide +kernel
theorem dX6_scanWeights_77 : decode cX6_scanWeights 77 = .ok (.dup, 1) := by decide +kernel
theorem dX6_scanWeights_78 : decode cX6_scanWeights 78 = .ok (.getfield 26, 3) := by decide +kernel
theorem dX6_scanWeights_81 : decode cX6_scanWeights 81 = .ok (.iconst 1, 1) := by decide +kernel
theorem dX6_scanWeights_82 : decode cX6_scanWeights 82 = .ok (.iadd, 1) := by decide +kernel
theorem dX6_scanWeights_83 : decode cX6_scanWeights 83 = .ok (.putfield 26, 3) := by decide +kernel
theorem dX6_scanWeights_86 : decode cX6_scanWeights 86 = .ok (.aload_n 0, 1) := by decide +kernel
theorem dX6_scanWeights_87 : decode cX6_scanWeights 87 = .ok (.invokevirtual 61, 3) := by decide +kernel
theorem dX6_scanWeights_90 : decode cX6_scanWeights 90 = .ok (.aload_n 0, 1) := by decide +kernel
theorem dX6_scanWeights_91 : decode cX6_scanWeights 91 = .ok (.invokevirtual 75, 3) := by decide +kernel
theorem dX6_scanWeights_94 : decode cX6_scanWeights 94 = .ok (.bipush 44, 2) := by decide +kernel
theorem dX6_scanWeights_96 : decode cX6_scanWeights 96 = .ok (.if_icmp .ne 9, 3) := by decide +kernel
theorem dX6_scanWeights_99 : decode cX6_scanWeights 99 = .ok (.iload_n 1, 1) := by decide +kernel
theorem dX6_scanWeights_100 : decode cX6_scanWeights 100 = .ok (.bipush 8, 2) := by decide +kernel
theorem dX6_scanWeights_102 : decode cX6_scanWeights 102 = .ok (.if_icmp .ne 5, 3) := by decide +kernel
theorem dX6_scanWeights_105 : decode cX6_scanWeights 105 = .ok (.iconst 1, 1) := by decide +kernel
theorem dX6_scanWeights_106 : decode cX6_scanWeights 106 = .ok (.ireturn, 1) := by decide +kernel
theorem dX6_scanWeights_107 : decode cX6_scanWeights 107 = .ok (.aload_n 0, 1) := by decide +kernel
theorem dX6_scanWeights_108 : decode cX6_scanWeights 108 = .ok (.dup, 1) := by decide +kernel
theorem dX6_scanWeights_109 : decode cX6_scanWeights 109 = .ok (.getfield 26, 3) := by decide +kernel
theorem dX6_scanWeights_112 : decode cX6_scanWeights 112 = .ok (.iconst 1, 1) := by decide +kernel
theorem dX6_scanWeights_113 : decode cX6_scanWeights 113 = .ok (.iadd, 1) := by decide +kernel
theorem dX6_scanWeights_114 : decode cX6_scanWeights 114 = .ok (.putfield 26, 3) := by decide +kernel
theorem dX6_scanWeights_117 : decode cX6_scanWeights 117 = .ok (.iinc 1 1, 3) := by decide +kernel
theorem dX6_scanWeights_120 : decode cX6_scanWeights 120 = .ok (.goto (-111), 3) := by decide +kernel
theorem dX6_scanWeights_123 : decode cX6_scanWeights 123 = .ok (.iconst 1, 1) := by decide +kernel
theorem dX6_scanWeights_124 : decode cX6_scanWeights 124 = .ok (.ireturn, 1) := by decide +kernel
set_option maxRecDepth 20000 in
theorem ggX6_scanCosts_X6_scanNumber : GoodIn wsX6_scanCosts wsX6_scanNumber := goodIn_r _ [10, 2, 11, 12, 13, 9, 14, 15, 16, 17, 18, 5, 19, 20, 21, 22, 23, 24, 25, 26, 27, 28, 33, 34, 35, 36, 37, 38, 39, 40, 41] (by decide +kernel) (by decide +kernel)
set_option maxRecDepth 20000 in
theorem gX6_scanCosts_X6_scanNumber : GoodIn wsX6_scanCosts (wsV RX6 79 RX6 yX6_scanNumber wsX6_scanNumber) := goodIn_app (goodIn_of _ (by decide +kernel)) ggX6_scanCosts_X6_scanNumber
set_option maxRecDepth 20000 in
theorem ggX6_scanCosts_X6_faultAt : GoodIn wsX6_scanCosts wsX6_faultAt := goodIn_r _ [27, 28, 33, 34, 35, 36, 37, 38, 39, 40, 41] (by decide +kernel) (by decide +kernel)
set_option maxRecDepth 20000 in
theorem gX6_scanCosts_X6_faultAt : GoodIn wsX6_scanCosts (wsV RX6 54 RX6 yX6_faultAt wsX6_faultAt) := goodIn_app (goodIn_of _ (by decide +kernel)) ggX6_scanCosts_X6_faultAt
set_option maxRecDepth 20000 in
theorem ggX6_scanCosts_X6_scanSign : GoodIn wsX6_scanCosts wsX6_scanSign := goodIn_r _ [32, 2, 11, 12, 13, 9, 14, 15, 16, 17, 18, 5, 19, 24, 25, 26, 27, 28, 33, 34, 35, 36, 37, 38, 39, 40, 41] (by decide +kernel) (by decide +kernel)
set_option maxRecDepth 20000 in
theorem gX6_scanCosts_X6_scanSign : GoodIn wsX6_scanCosts (wsV RX6 37 RX6 yX6_scanSign wsX6_scanSign) := goodIn_app (goodIn_of _ (by decide +kernel)) ggX6_scanCosts_X6_scanSign
set_option maxRecDepth 20000 in
theorem ggX6_scanCosts_X6_skipBlanks : GoodIn wsX6_scanCosts wsX6_skipBlanks := goodIn_r _ [14, 2, 15, 16, 17, 9, 18, 5, 19, 33, 34, 35, 36, 37, 38, 39, 40, 41] (by decide +kernel) (by decide +kernel)
set_option maxRecDepth 20000 in
theorem gX6_scanCosts_X6_skipBlanks : GoodIn wsX6_scanCosts (wsV RX6 61 RX6 yX6_skipBlanks wsX6_skipBlanks) := goodIn_app (goodIn_of _ (by decide +kernel)) ggX6_scanCosts_X6_skipBlanks
theorem dX6_scanCosts_0 : decode cX6_scanCosts 0 = .ok (.aload_n 0, 1) := by decide +kernel
theorem dX6_scanCosts_1 : decode cX6_scanCosts 1 = .ok (.aload_n 0, 1) := by decide +kernel
theorem dX6_scanCosts_2 : decode cX6_scanCosts 2 = .ok (.invokevirtual 79, 3) := by decide +kernel
theorem dX6_scanCosts_5 : decode cX6_scanCosts 5 = .ok (.putfield 82, 3) := by decide +kernel
theorem dX6_scanCosts_8 : decode cX6_scanCosts 8 = .ok (.aload_n 0, 1) := by decide +kernel
theorem dX6_scanCosts_9 : decode cX6_scanCosts 9 = .ok (.getfield 82, 3) := by decide +kernel
theorem dX6_scanCosts_12 : decode cX6_scanCosts 12 = .ok (.ifCond .ge 5, 3) := by decide +kernel
theorem dX6_scanCosts_15 : decode cX6_scanCosts 15 = .ok (.iconst 0, 1) := by decide +kernel
theorem dX6_scanCosts_16 : decode cX6_scanCosts 16 = .ok (.ireturn, 1) := by decide +kernel
theorem dX6_scanCosts_17 : decode cX6_scanCosts 17 = .ok (.aload_n 0, 1) := by decide +kernel
theorem dX6_scanCosts_18 : decode cX6_scanCosts 18 = .ok (.getfield 82, 3) := by decide +kernel
theorem dX6_scanCosts_21 : decode cX6_scanCosts 21 = .ok (.ifCond .ne 14, 3) := by decide +kernel
theorem dX6_scanCosts_24 : decode cX6_scanCosts 24 = .ok (.aload_n 0, 1) := by decide +kernel
theorem dX6_scanCosts_25 : decode cX6_scanCosts 25 = .ok (.aload_n 0, 1) := by decide +kernel
theorem dX6_scanCosts_26 : decode cX6_scanCosts 26 = .ok (.getfield 26, 3) := by decide +kernel
theorem dX6_scanCosts_29 : decode cX6_scanCosts 29 = .ok (.iconst 1, 1) := by decide +kernel
theorem dX6_scanCosts_30 : decode cX6_scanCosts 30 = .ok (.isub, 1) := by decide +kernel
theorem dX6_scanCosts_31 : decode cX6_scanCosts 31 = .ok (.invokevirtual 54, 3) := by decide +kernel
theorem dX6_scanCosts_34 : decode cX6_scanCosts 34 = .ok (.ireturn, 1) := by decide +kernel
theorem dX6_scanCosts_35 : decode cX6_scanCosts 35 = .ok (.aload_n 0, 1) := by decide +kernel
theorem dX6_scanCosts_36 : decode cX6_scanCosts 36 = .ok (.bipush 44, 2) := by decide +kernel
theorem dX6_scanCosts_38 : decode cX6_scanCosts 38 = .ok (.invokevirtual 37, 3) := by decide +kernel
theorem dX6_scanCosts_41 : decode cX6_scanCosts 41 = .ok (.ifCond .ne 5, 3) := by decide +kernel
theorem dX6_scanCosts_44 : decode cX6_scanCosts 44 = .ok (.iconst 0, 1) := by decide +kernel
theorem dX6_scanCosts_45 : decode cX6_scanCosts 45 = .ok (.ireturn, 1) := by decide +kernel
theorem dX6_scanCosts_46 : decode cX6_scanCosts 46 = .ok (.aload_n 0, 1) := by decide +kernel
theorem dX6_scanCosts_47 : decode cX6_scanCosts 47 = .ok (.aload_n 0, 1) := by decide +kernel
theorem dX6_scanCosts_48 : decode cX6_scanCosts 48 = .ok (.invokevirtual 79, 3) := by decide +kernel
theorem dX6_scanCosts_51 : decode cX6_scanCosts 51 = .ok (.putfield 85, 3) := by decide +kernel
theorem dX6_scanCosts_54 : decode cX6_scanCosts 54 = .ok (.aload_n 0, 1) := by decide +kernel
theorem dX6_scanCosts_55 : decode cX6_scanCosts 55 = .ok (.getfield 85, 3) := by decide +kernel
theorem dX6_scanCosts_58 : decode cX6_scanCosts 58 = .ok (.ifCond .ge 5, 3) := by decide +kernel
theorem dX6_scanCosts_61 : decode cX6_scanCosts 61 = .ok (.iconst 0, 1) := by decide +kernel
theorem dX6_scanCosts_62 : decode cX6_scanCosts 62 = .ok (.ireturn, 1) := by decide +kernel
theorem dX6_scanCosts_63 : decode cX6_scanCosts 63 = .ok (.aload_n 0, 1) := by decide +kernel
theorem dX6_scanCosts_64 : decode cX6_scanCosts 64 = .ok (.invokevirtual 61, 3) := by decide +kernel
theorem dX6_scanCosts_67 : decode cX6_scanCosts 67 = .ok (.aload_n 0, 1) := by decide +kernel
theorem dX6_scanCosts_68 : decode cX6_scanCosts 68 = .ok (.iconst 1, 1) := by decide +kernel
theorem dX6_scanCosts_69 : decode cX6_scanCosts 69 = .ok (.putfield 29, 3) := by decide +kernel
theorem dX6_scanCosts_72 : decode cX6_scanCosts 72 = .ok (.aload_n 0, 1) := by decide +kernel
theorem dX6_scanCosts_73 : decode cX6_scanCosts 73 = .ok (.getfield 26, 3) := by decide +kernel
theorem dX6_scanCosts_76 : decode cX6_scanCosts 76 = .ok (.aload_n 0, 1) := by decide +kernel
theorem dX6_scanCosts_77 : decode cX6_scanCosts 77 = .ok (.getfield 22, 3) := by decide +kernel
theorem dX6_scanCosts_80 : decode cX6_scanCosts 80 = .ok (.if_icmp .eq 14, 3) := by decide +kernel
theorem dX6_scanCosts_83 : decode cX6_scanCosts 83 = .ok (.aload_n 0, 1) := by decide +kernel
theorem dX6_scanCosts_84 : decode cX6_scanCosts 84 = .ok (.aload_n 0, 1) := by decide +kernel
theorem dX6_scanCosts_85 : decode cX6_scanCosts 85 = .ok (.getfield 26, 3) := by decide +kernel
theorem dX6_scanCosts_88 : decode cX6_scanCosts 88 = .ok (.invokevirtual 54, 3) := by decide +kernel
theorem dX6_scanCosts_91 : decode cX6_scanCosts 91 = .ok (.ifCond .eq 7, 3) := by decide +kernel
theorem dX6_scanCosts_94 : decode cX6_scanCosts 94 = .ok (.iconst 1, 1) := by decide +kernel
theorem dX6_scanCosts_95 : decode cX6_scanCosts 95 = .ok (.goto 4, 3) := by decide +kernel
theorem dX6_scanCosts_98 : decode cX6_scanCosts 98 = .ok (.iconst 0, 1) := by decide +kernel
theorem dX6_scanCosts_99 : decode cX6_scanCosts 99 = .ok (.ireturn, 1) := by decide +kernel
set_option maxRecDepth 20000 in
theorem ggX6_scanNumber_X6_skipBlanks : GoodIn wsX6_scanNumber wsX6_skipBlanks := goodIn_r _ [6, 1, 7, 8, 9, 5, 10, 11, 12, 22, 23, 24, 25, 26, 27, 28, 29, 30] (by decide +kernel) (by decide +kernel)
set_option maxRecDepth 20000 in
theorem gX6_scanNumber_X6_skipBlanks : GoodIn wsX6_scanNumber (wsV RX6 61 RX6 yX6_skipBlanks wsX6_skipBlanks) := goodIn_app (goodIn_of _ (by decide +kernel)) ggX6_scanNumber_X6_skipBlanks
set_option maxRecDepth 20000 in
theorem ggX6_scanNumber_X6_figure : GoodIn wsX6_scanNumber wsX6_figure := goodIn_r _ [16, 7, 8, 9, 5, 10, 1, 11, 12, 22, 23, 24, 25, 26, 27, 28, 29, 30] (by decide +kernel) (by decide +kernel)
set_option maxRecDepth 20000 in
theorem gX6_scanNumber_X6_figure : GoodIn wsX6_scanNumber (wsV RX6 64 RX6 yX6_figure wsX6_figure) := goodIn_app (goodIn_of _ (by decide +kernel)) ggX6_scanNumber_X6_figure
set_option maxRecDepth 20000 in
theorem ggX6_scanNumber_X6_faultAt : GoodIn wsX6_scanNumber wsX6_faultAt := goodIn_r _ [20, 21, 22, 23, 24, 25, 26, 27, 28, 29, 30] (by decide +kernel) (by decide +kernel)
set_option maxRecDepth 20000 in
theorem gX6_scanNumber_X6_faultAt : GoodIn wsX6_scanNumber (wsV RX6 54 RX6 yX6_faultAt wsX6_faultAt) := goodIn_app (goodIn_of _ (by decide +kernel)) ggX6_scanNumber_X6_faultAt
theorem dX6_scanNumber_0 : decode cX6_scanNumber 0 = .ok (.aload_n 0, 1) := by decide +kernel
theorem dX6_scanNumber_1 : decode cX6_scanNumber 1 = .ok (.invokevirtual 61, 3) := by decide +kernel
theorem dX6_scanNumber_4 : decode cX6_scanNumber 4 = .ok (.iconst 0, 1) := by decide +kernel
theorem dX6_scanNumber_5 : decode cX6_scanNumber 5 = .ok (.istore_n 1, 1) := by decide +kernel
theorem dX6_scanNumber_6 : decode cX6_scanNumber 6 = .ok (.iconst 0, 1) := by decide +kernel
theorem dX6_scanNumber_7 : decode cX6_scanNumber 7 = .ok (.istore_n 2, 1) := by decide +kernel
theorem dX6_scanNumber_8 : decode cX6_scanNumber 8 = .ok (.iload_n 2, 1) := by decide +kernel
theorem dX6_scanNumber_9 : decode cX6_scanNumber 9 = .ok (.iconst 2, 1) := by decide +kernel
theorem dX6_scanNumber_10 : decode cX6_scanNumber 10 = .ok (.if_icmp .ge 56, 3) := by decide +kernel
theorem dX6_scanNumber_13 : decode cX6_scanNumber 13 = .ok (.aload_n 0, 1) := by decide +kernel
theorem dX6_scanNumber_14 : decode cX6_scanNumber 14 = .ok (.invokevirtual 64, 3) := by decide +kernel
theorem dX6_scanNumber_17 : decode cX6_scanNumber 17 = .ok (.istore_n 3, 1) := by decide +kernel
theorem dX6_scanNumber_18 : decode cX6_scanNumber 18 = .ok (.iload_n 3, 1) := by decide +kernel
theorem dX6_scanNumber_19 : decode cX6_scanNumber 19 = .ok (.ifCond .ge 24, 3) := by decide +kernel
theorem dX6_scanNumber_22 : decode cX6_scanNumber 22 = .ok (.iload_n 2, 1) := by decide +kernel
theorem dX6_scanNumber_23 : decode cX6_scanNumber 23 = .ok (.ifCond .gt 14, 3) := by decide +kernel
theorem dX6_scanNumber_26 : decode cX6_scanNumber 26 = .ok (.aload_n 0, 1) := by decide +kernel
theorem dX6_scanNumber_27 : decode cX6_scanNumber 27 = .ok (.aload_n 0, 1) := by decide +kernel
theorem dX6_scanNumber_28 : decode cX6_scanNumber 28 = .ok (.getfield 26, 3) := by decide +kernel
theorem dX6_scanNumber_31 : decode cX6_scanNumber 31 = .ok (.invokevirtual 54, 3) := by decide +kernel
theorem dX6_scanNumber_34 : decode cX6_scanNumber 34 = .ok (.ifCond .eq 7, 3) := by decide +kernel
theorem dX6_scanNumber_37 : decode cX6_scanNumber 37 = .ok (.iload_n 1, 1) := by decide +kernel
theorem dX6_scanNumber_38 : decode cX6_scanNumber 38 = .ok (.goto 4, 3) := by decide +kernel
theorem dX6_scanNumber_41 : decode cX6_scanNumber 41 = .ok (.iconst (-1), 1) := by decide +kernel
theorem dX6_scanNumber_42 : decode cX6_scanNumber 42 = .ok (.ireturn, 1) := by decide +kernel
theorem dX6_scanNumber_43 : decode cX6_scanNumber 43 = .ok (.iload_n 1, 1) := by decide +kernel
theorem dX6_scanNumber_44 : decode cX6_scanNumber 44 = .ok (.bipush 10, 2) := by decide +kernel
theorem dX6_scanNumber_46 : decode cX6_scanNumber 46 = .ok (.imul, 1) := by decide +kernel
theorem dX6_scanNumber_47 : decode cX6_scanNumber 47 = .ok (.iload_n 3, 1) := by decide +kernel
theorem dX6_scanNumber_48 : decode cX6_scanNumber 48 = .ok (.iadd, 1) := by decide +kernel
theorem dX6_scanNumber_49 : decode cX6_scanNumber 49 = .ok (.istore_n 1, 1) := by decide +kernel
theorem dX6_scanNumber_50 : decode cX6_scanNumber 50 = .ok (.aload_n 0, 1) := by decide +kernel
theorem dX6_scanNumber_51 : decode cX6_scanNumber 51 = .ok (.dup, 1) := by decide +kernel
theorem dX6_scanNumber_52 : decode cX6_scanNumber 52 = .ok (.getfield 26, 3) := by decide +kernel
theorem dX6_scanNumber_55 : decode cX6_scanNumber 55 = .ok (.iconst 1, 1) := by decide +kernel
theorem dX6_scanNumber_56 : decode cX6_scanNumber 56 = .ok (.iadd, 1) := by decide +kernel
theorem dX6_scanNumber_57 : decode cX6_scanNumber 57 = .ok (.putfield 26, 3) := by decide +kernel
theorem dX6_scanNumber_60 : decode cX6_scanNumber 60 = .ok (.iinc 2 1, 3) := by decide +kernel
theorem dX6_scanNumber_63 : decode cX6_scanNumber 63 = .ok (.goto (-55), 3) := by decide +kernel
theorem dX6_scanNumber_66 : decode cX6_scanNumber 66 = .ok (.aload_n 0, 1) := by decide +kernel
theorem dX6_scanNumber_67 : decode cX6_scanNumber 67 = .ok (.invokevirtual 64, 3) := by decide +kernel
theorem dX6_scanNumber_70 : decode cX6_scanNumber 70 = .ok (.ifCond .lt 14, 3) := by decide +kernel
theorem dX6_scanNumber_73 : decode cX6_scanNumber 73 = .ok (.aload_n 0, 1) := by decide +kernel
theorem dX6_scanNumber_74 : decode cX6_scanNumber 74 = .ok (.aload_n 0, 1) := by decide +kernel
theorem dX6_scanNumber_75 : decode cX6_scanNumber 75 = .ok (.getfield 26, 3) := by decide +kernel
theorem dX6_scanNumber_78 : decode cX6_scanNumber 78 = .ok (.invokevirtual 54, 3) := by decide +kernel
theorem dX6_scanNumber_81 : decode cX6_scanNumber 81 = .ok (.ifCond .eq 7, 3) := by decide +kernel
theorem dX6_scanNumber_84 : decode cX6_scanNumber 84 = .ok (.iload_n 1, 1) := by decide +kernel
theorem dX6_scanNumber_85 : decode cX6_scanNumber 85 = .ok (.goto 4, 3) := by decide +kernel
theorem dX6_scanNumber_88 : decode cX6_scanNumber 88 = .ok (.iconst (-1), 1) := by decide +kernel
theorem dX6_scanNumber_89 : decode cX6_scanNumber 89 = .ok (.ireturn, 1) := by decide +kernel
set_option maxRecDepth 20000 in
theorem ggX6_scanSign_X6_skipBlanks : GoodIn wsX6_scanSign wsX6_skipBlanks := goodIn_r _ [6, 1, 7, 8, 9, 5, 10, 11, 12, 18, 19, 20, 21, 22, 23, 24, 25, 26] (by decide +kernel) (by decide +kernel)
set_option maxRecDepth 20000 in
theorem gX6_scanSign_X6_skipBlanks : GoodIn wsX6_scanSign (wsV RX6 61 RX6 yX6_skipBlanks wsX6_skipBlanks) := goodIn_app (goodIn_of _ (by decide +kernel)) ggX6_scanSign_X6_skipBlanks
set_option maxRecDepth 20000 in
theorem ggX6_scanSign_X6_letter : GoodIn wsX6_scanSign wsX6_letter := goodIn_r _ [10, 1, 11, 12, 18, 19, 20, 21, 22, 23, 24, 25, 26] (by decide +kernel) (by decide +kernel)
set_option maxRecDepth 20000 in
theorem gX6_scanSign_X6_letter : GoodIn wsX6_scanSign (wsV RX6 75 RX6 yX6_letter wsX6_letter) := goodIn_app (goodIn_of _ (by decide +kernel)) ggX6_scanSign_X6_letter
set_option maxRecDepth 20000 in
theorem ggX6_scanSign_X6_faultAt : GoodIn wsX6_scanSign wsX6_faultAt := goodIn_r _ [16, 17, 18, 19, 20, 21, 22, 23, 24, 25, 26] (by decide +kernel) (by decide +kernel)
set_option maxRecDepth 20000 in
theorem gX6_scanSign_X6_faultAt : GoodIn wsX6_scanSign (wsV RX6 54 RX6 yX6_faultAt wsX6_faultAt) := goodIn_app (goodIn_of _ (by decide +kernel)) ggX6_scanSign_X6_faultAt
theorem dX6_scanSign_0 : decode cX6_scanSign 0 = .ok (.aload_n 0, 1) := by decide +kernel
theorem dX6_scanSign_1 : decode cX6_scanSign 1 = .ok (.invokevirtual 61, 3) := by decide +kernel
theorem dX6_scanSign_4 : decode cX6_scanSign 4 = .ok (.aload_n 0, 1) := by decide +kernel
theorem dX6_scanSign_5 : decode cX6_scanSign 5 = .ok (.invokevirtual 75, 3) := by decide +kernel
theorem dX6_scanSign_8 : decode cX6_scanSign 8 = .ok (.iload_n 1, 1) := by decide +kernel
theorem dX6_scanSign_9 : decode cX6_scanSign 9 = .ok (.if_icmp .eq 12, 3) := by decide +kernel
theorem dX6_scanSign_12 : decode cX6_scanSign 12 = .ok (.aload_n 0, 1) := by decide +kernel
theorem dX6_scanSign_13 : decode cX6_scanSign 13 = .ok (.aload_n 0, 1) := by decide +kernel
theorem dX6_scanSign_14 : decode cX6_scanSign 14 = .ok (.getfield 26, 3) := by decide +kernel
theorem dX6_scanSign_17 : decode cX6_scanSign 17 = .ok (.invokevirtual 54, 3) := by decide +kernel
theorem dX6_scanSign_20 : decode cX6_scanSign 20 = .ok (.ireturn, 1) := by decide +kernel
theorem dX6_scanSign_21 : decode cX6_scanSign 21 = .ok (.aload_n 0, 1) := by decide +kernel
theorem dX6_scanSign_22 : decode cX6_scanSign 22 = .ok (.dup, 1) := by decide +kernel
theorem dX6_scanSign_23 : decode cX6_scanSign 23 = .ok (.getfield 26, 3) := by decide +kernel
theorem dX6_scanSign_26 : decode cX6_scanSign 26 = .ok (.iconst 1, 1) := by decide +kernel
theorem dX6_scanSign_27 : decode cX6_scanSign 27 = .ok (.iadd, 1) := by decide +kernel
theorem dX6_scanSign_28 : decode cX6_scanSign 28 = .ok (.putfield 26, 3) := by decide +kernel
theorem dX6_scanSign_31 : decode cX6_scanSign 31 = .ok (.iconst 1, 1) := by decide +kernel
theorem dX6_scanSign_32 : decode cX6_scanSign 32 = .ok (.ireturn, 1) := by decide +kernel
set_option maxRecDepth 20000 in
theorem ggX6_skipBlanks_X6_letter : GoodIn wsX6_skipBlanks wsX6_letter := goodIn_r _ [6, 1, 7, 8, 9, 10, 11, 12, 13, 14, 15, 16, 17] (by decide +kernel) (by decide +kernel)
set_option maxRecDepth 20000 in
theorem gX6_skipBlanks_X6_letter : GoodIn wsX6_skipBlanks (wsV RX6 75 RX6 yX6_letter wsX6_letter) := goodIn_app (goodIn_of _ (by decide +kernel)) ggX6_skipBlanks_X6_letter
theorem dX6_skipBlanks_0 : decode cX6_skipBlanks 0 = .ok (.iconst 0, 1) := by decide +kernel
theorem dX6_skipBlanks_1 : decode cX6_skipBlanks 1 = .ok (.istore_n 1, 1) := by decide +kernel
theorem dX6_skipBlanks_2 : decode cX6_skipBlanks 2 = .ok (.iload_n 1, 1) := by decide +kernel
theorem dX6_skipBlanks_3 : decode cX6_skipBlanks 3 = .ok (.bipush 60, 2) := by decide +kernel
theorem dX6_skipBlanks_5 : decode cX6_skipBlanks 5 = .ok (.if_icmp .ge 28, 3) := by decide +kernel
theorem dX6_skipBlanks_8 : decode cX6_skipBlanks 8 = .ok (.aload_n 0, 1) := by decide +kernel
theorem dX6_skipBlanks_9 : decode cX6_skipBlanks 9 = .ok (.invokevirtual 75, 3) := by decide +kernel
theorem dX6_skipBlanks_12 : decode cX6_skipBlanks 12 = .ok (.bipush 32, 2) := by decide +kernel
theorem dX6_skipBlanks_14 : decode cX6_skipBlanks 14 = .ok (.if_icmp .ne 19, 3) := by decide +kernel
theorem dX6_skipBlanks_17 : decode cX6_skipBlanks 17 = .ok (.aload_n 0, 1) := by decide +kernel
theorem dX6_skipBlanks_18 : decode cX6_skipBlanks 18 = .ok (.dup, 1) := by decide +kernel
theorem dX6_skipBlanks_19 : decode cX6_skipBlanks 19 = .ok (.getfield 26, 3) := by decide +kernel
theorem dX6_skipBlanks_22 : decode cX6_skipBlanks 22 = .ok (.iconst 1, 1) := by decide +kernel
theorem dX6_skipBlanks_23 : decode cX6_skipBlanks 23 = .ok (.iadd, 1) := by decide +kernel
theorem dX6_skipBlanks_24 : decode cX6_skipBlanks 24 = .ok (.putfield 26, 3) := by decide +kernel
theorem dX6_skipBlanks_27 : decode cX6_skipBlanks 27 = .ok (.iinc 1 1, 3) := by decide +kernel
theorem dX6_skipBlanks_30 : decode cX6_skipBlanks 30 = .ok (.goto (-28), 3) := by decide +kernel
theorem dX6_skipBlanks_33 : decode cX6_skipBlanks 33 = .ok (.return_, 1) := by decide +kernel
theorem dX6_letter_0 : decode cX6_letter 0 = .ok (.aload_n 0, 1) := by decide +kernel
theorem dX6_letter_1 : decode cX6_letter 1 = .ok (.getfield 26, 3) := by decide +kernel
theorem dX6_letter_4 : decode cX6_letter 4 = .ok (.ifCond .lt 38, 3) := by decide +kernel
theorem dX6_letter_7 : decode cX6_letter 7 = .ok (.aload_n 0, 1) := by decide +kernel
theorem dX6_letter_8 : decode cX6_letter 8 = .ok (.getfield 26, 3) := by decide +kernel
theorem dX6_letter_11 : decode cX6_letter 11 = .ok (.aload_n 0, 1) := by decide +kernel
theorem dX6_letter_12 : decode cX6_letter 12 = .ok (.getfield 22, 3) := by decide +kernel
theorem dX6_letter_15 : decode cX6_letter 15 = .ok (.if_icmp .ge 27, 3) := by decide +kernel
theorem dX6_letter_18 : decode cX6_letter 18 = .ok (.aload_n 0, 1) := by decide +kernel
theorem dX6_letter_19 : decode cX6_letter 19 = .ok (.getfield 26, 3) := by decide +kernel
theorem dX6_letter_22 : decode cX6_letter 22 = .ok (.aload_n 0, 1) := by decide +kernel
theorem dX6_letter_23 : decode cX6_letter 23 = .ok (.getfield 9, 3) := by decide +kernel
theorem dX6_letter_26 : decode cX6_letter 26 = .ok (.arraylength, 1) := by decide +kernel
theorem dX6_letter_27 : decode cX6_letter 27 = .ok (.if_icmp .ge 15, 3) := by decide +kernel
theorem dX6_letter_30 : decode cX6_letter 30 = .ok (.aload_n 0, 1) := by decide +kernel
theorem dX6_letter_31 : decode cX6_letter 31 = .ok (.getfield 9, 3) := by decide +kernel
theorem dX6_letter_34 : decode cX6_letter 34 = .ok (.aload_n 0, 1) := by decide +kernel
theorem dX6_letter_35 : decode cX6_letter 35 = .ok (.getfield 26, 3) := by decide +kernel
theorem dX6_letter_38 : decode cX6_letter 38 = .ok (.caload, 1) := by decide +kernel
theorem dX6_letter_39 : decode cX6_letter 39 = .ok (.goto 4, 3) := by decide +kernel
theorem dX6_letter_42 : decode cX6_letter 42 = .ok (.iconst 0, 1) := by decide +kernel
theorem dX6_letter_43 : decode cX6_letter 43 = .ok (.ireturn, 1) := by decide +kernel
set_option maxRecDepth 20000 in
theorem ggX6_figure_X6_letter : GoodIn wsX6_figure wsX6_letter := goodIn_r _ [5, 6, 7, 8, 9, 10, 11, 12, 13, 14, 15, 16, 17] (by decide +kernel) (by decide +kernel)
set_option maxRecDepth 20000 in
theorem gX6_figure_X6_letter : GoodIn wsX6_figure (wsV RX6 75 RX6 yX6_letter wsX6_letter) := goodIn_app (goodIn_of _ (by decide +kernel)) ggX6_figure_X6_letter
theorem dX6_figure_0 : decode cX6_figure 0 = .ok (.aload_n 0, 1) := by decide +kernel
theorem dX6_figure_1 : decode cX6_figure 1 = .ok (.invokevirtual 75, 3) := by decide +kernel
theorem dX6_figure_4 : decode cX6_figure 4 = .ok (.istore_n 1, 1) := by decide +kernel
theorem dX6_figure_5 : decode cX6_figure 5 = .ok (.iload_n 1, 1) := by decide +kernel
theorem dX6_figure_6 : decode cX6_figure 6 = .ok (.bipush 48, 2) := by decide +kernel
theorem dX6_figure_8 : decode cX6_figure 8 = .ok (.if_icmp .lt 16, 3) := by decide +kernel
theorem dX6_figure_11 : decode cX6_figure 11 = .ok (.iload_n 1, 1) := by decide +kernel
theorem dX6_figure_12 : decode cX6_figure 12 = .ok (.bipush 57, 2) := by decide +kernel
theorem dX6_figure_14 : decode cX6_figure 14 = .ok (.if_icmp .gt 10, 3) := by decide +kernel
theorem dX6_figure_17 : decode cX6_figure 17 = .ok (.iload_n 1, 1) := by decide +kernel
theorem dX6_figure_18 : decode cX6_figure 18 = .ok (.bipush 48, 2) := by decide +kernel
theorem dX6_figure_20 : decode cX6_figure 20 = .ok (.isub, 1) := by decide +kernel
theorem dX6_figure_21 : decode cX6_figure 21 = .ok (.goto 4, 3) := by decide +kernel
theorem dX6_figure_24 : decode cX6_figure 24 = .ok (.iconst (-1), 1) := by decide +kernel
theorem dX6_figure_25 : decode cX6_figure 25 = .ok (.ireturn, 1) := by decide +kernel
theorem dX6_faultAt_0 : decode cX6_faultAt 0 = .ok (.aload_n 0, 1) := by decide +kernel
theorem dX6_faultAt_1 : decode cX6_faultAt 1 = .ok (.iload_n 1, 1) := by decide +kernel
theorem dX6_faultAt_2 : decode cX6_faultAt 2 = .ok (.putfield 88, 3) := by decide +kernel
theorem dX6_faultAt_5 : decode cX6_faultAt 5 = .ok (.iconst 0, 1) := by decide +kernel
theorem dX6_faultAt_6 : decode cX6_faultAt 6 = .ok (.ireturn, 1) := by decide +kernel

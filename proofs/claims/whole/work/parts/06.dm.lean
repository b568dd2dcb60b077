theorem dX8_pairs_45 : decode cX8_pairs 45 = .ok (.iadd, 1) := by decide +kernel
theorem dX8_pairs_46 : decode cX8_pairs 46 = .ok (.invokevirtual 116, 3) := by decide +kernel
theorem dX8_pairs_49 : decode cX8_pairs 49 = .ok (.istore 8, 2) := by decide +kernel
theorem dX8_pairs_51 : decode cX8_pairs 51 = .ok (.aload_n 0, 1) := by decide +kernel
theorem dX8_pairs_52 : decode cX8_pairs 52 = .ok (.lconst 0, 1) := by decide +kernel
theorem dX8_pairs_53 : decode cX8_pairs 53 = .ok (.putfield 174, 3) := by decide +kernel
theorem dX8_pairs_56 : decode cX8_pairs 56 = .ok (.aload_n 0, 1) := by decide +kernel
theorem dX8_pairs_57 : decode cX8_pairs 57 = .ok (.lconst 1, 1) := by decide +kernel
theorem dX8_pairs_58 : decode cX8_pairs 58 = .ok (.putfield 177, 3) := by decide +kernel
theorem dX8_pairs_61 : decode cX8_pairs 61 = .ok (.aload_n 0, 1) := by decide +kernel
theorem dX8_pairs_62 : decode cX8_pairs 62 = .ok (.iconst 2, 1) := by decide +kernel
theorem dX8_pairs_63 : decode cX8_pairs 63 = .ok (.aload_n 0, 1) := by decide +kernel
theorem dX8_pairs_64 : decode cX8_pairs 64 = .ok (.getfield 7, 3) := by decide +kernel
theorem dX8_pairs_67 : decode cX8_pairs 67 = .ok (.bipush 9, 2) := by decide +kernel
theorem dX8_pairs_69 : decode cX8_pairs 69 = .ok (.iaload, 1) := by decide +kernel
theorem dX8_pairs_70 : decode cX8_pairs 70 = .ok (.imul, 1) := by decide +kernel
theorem dX8_pairs_71 : decode cX8_pairs 71 = .ok (.iconst 0, 1) := by decide +kernel
theorem dX8_pairs_72 : decode cX8_pairs 72 = .ok (.iload 5, 2) := by decide +kernel
theorem dX8_pairs_74 : decode cX8_pairs 74 = .ok (.iload 6, 2) := by decide +kernel
theorem dX8_pairs_76 : decode cX8_pairs 76 = .ok (.imul, 1) := by decide +kernel
theorem dX8_pairs_77 : decode cX8_pairs 77 = .ok (.iload 4, 2) := by decide +kernel
theorem dX8_pairs_79 : decode cX8_pairs 79 = .ok (.invokevirtual 180, 3) := by decide +kernel
theorem dX8_pairs_82 : decode cX8_pairs 82 = .ok (.aload_n 0, 1) := by decide +kernel
theorem dX8_pairs_83 : decode cX8_pairs 83 = .ok (.aload_n 0, 1) := by decide +kernel
theorem dX8_pairs_84 : decode cX8_pairs 84 = .ok (.getfield 7, 3) := by decide +kernel
theorem dX8_pairs_87 : decode cX8_pairs 87 = .ok (.bipush 9, 2) := by decide +kernel
theorem dX8_pairs_89 : decode cX8_pairs 89 = .ok (.iaload, 1) := by decide +kernel
theorem dX8_pairs_90 : decode cX8_pairs 90 = .ok (.iload_n 3, 1) := by decide +kernel
theorem dX8_pairs_91 : decode cX8_pairs 91 = .ok (.iconst 1, 1) := by decide +kernel
theorem dX8_pairs_92 : decode cX8_pairs 92 = .ok (.iadd, 1) := by decide +kernel
theorem dX8_pairs_93 : decode cX8_pairs 93 = .ok (.iload_n 1, 1) := by decide +kernel
theorem dX8_pairs_94 : decode cX8_pairs 94 = .ok (.if_icmp .lt 13, 3) := by decide +kernel
theorem dX8_pairs_97 : decode cX8_pairs 97 = .ok (.aload_n 0, 1) := by decide +kernel
theorem dX8_pairs_98 : decode cX8_pairs 98 = .ok (.getfield 7, 3) := by decide +kernel
theorem dX8_pairs_101 : decode cX8_pairs 101 = .ok (.bipush 10, 2) := by decide +kernel
theorem dX8_pairs_103 : decode cX8_pairs 103 = .ok (.iaload, 1) := by decide +kernel
theorem dX8_pairs_104 : decode cX8_pairs 104 = .ok (.goto 4, 3) := by decide +kernel
theorem dX8_pairs_107 : decode cX8_pairs 107 = .ok (.iconst 0, 1) := by decide +kernel
theorem dX8_pairs_108 : decode cX8_pairs 108 = .ok (.iadd, 1) := by decide +kernel
theorem dX8_pairs_109 : decode cX8_pairs 109 = .ok (.iload_n 3, 1) := by decide +kernel
theorem dX8_pairs_110 : decode cX8_pairs 110 = .ok (.iconst 1, 1) := by decide +kernel
theorem dX8_pairs_111 : decode cX8_pairs 111 = .ok (.iadd, 1) := by decide +kernel
theorem dX8_pairs_112 : decode cX8_pairs 112 = .ok (.iload_n 1, 1) := by decide +kernel
theorem dX8_pairs_113 : decode cX8_pairs 113 = .ok (.if_icmp .lt 7, 3) := by decide +kernel
theorem dX8_pairs_116 : decode cX8_pairs 116 = .ok (.iconst 0, 1) := by decide +kernel
theorem dX8_pairs_117 : decode cX8_pairs 117 = .ok (.goto 6, 3) := by decide +kernel
theorem dX8_pairs_120 : decode cX8_pairs 120 = .ok (.iload_n 3, 1) := by decide +kernel
theorem dX8_pairs_121 : decode cX8_pairs 121 = .ok (.iconst 1, 1) := by decide +kernel
theorem dX8_pairs_122 : decode cX8_pairs 122 = .ok (.iadd, 1) := by decide +kernel
theorem dX8_pairs_123 : decode cX8_pairs 123 = .ok (.iload 5, 2) := by decide +kernel
theorem dX8_pairs_125 : decode cX8_pairs 125 = .ok (.iload 8, 2) := by decide +kernel
theorem dX8_pairs_127 : decode cX8_pairs 127 = .ok (.imul, 1) := by decide +kernel
theorem dX8_pairs_128 : decode cX8_pairs 128 = .ok (.iload 4, 2) := by decide +kernel
theorem dX8_pairs_130 : decode cX8_pairs 130 = .ok (.invokevirtual 180, 3) := by decide +kernel
theorem dX8_pairs_133 : decode cX8_pairs 133 = .ok (.aload_n 0, 1) := by decide +kernel
theorem dX8_pairs_134 : decode cX8_pairs 134 = .ok (.aload_n 0, 1) := by decide +kernel
theorem dX8_pairs_135 : decode cX8_pairs 135 = .ok (.getfield 7, 3) := by decide +kernel
theorem dX8_pairs_138 : decode cX8_pairs 138 = .ok (.bipush 9, 2) := by decide +kernel
theorem dX8_pairs_140 : decode cX8_pairs 140 = .ok (.iaload, 1) := by decide +kernel
theorem dX8_pairs_141 : decode cX8_pairs 141 = .ok (.iload_n 2, 1) := by decide +kernel
theorem dX8_pairs_142 : decode cX8_pairs 142 = .ok (.iconst 1, 1) := by decide +kernel
theorem dX8_pairs_143 : decode cX8_pairs 143 = .ok (.iadd, 1) := by decide +kernel
theorem dX8_pairs_144 : decode cX8_pairs 144 = .ok (.iload_n 1, 1) := by decide +kernel
theorem dX8_pairs_145 : decode cX8_pairs 145 = .ok (.if_icmp .lt 13, 3) := by decide +kernel
theorem dX8_pairs_148 : decode cX8_pairs 148 = .ok (.aload_n 0, 1) := by decide +kernel
theorem dX8_pairs_149 : decode cX8_pairs 149 = .ok (.getfield 7, 3) := by decide +kernel
theorem dX8_pairs_152 : decode cX8_pairs 152 = .ok (.bipush 10, 2) := by decide +kernel
theorem dX8_pairs_154 : decode cX8_pairs 154 = .ok (.iaload, 1) := by decide +kernel
theorem dX8_pairs_155 : decode cX8_pairs 155 = .ok (.goto 4, 3) := by decide +kernel
theorem dX8_pairs_158 : decode cX8_pairs 158 = .ok (.iconst 0, 1) := by decide +kernel
theorem dX8_pairs_159 : decode cX8_pairs 159 = .ok (.iadd, 1) := by decide +kernel
theorem dX8_pairs_160 : decode cX8_pairs 160 = .ok (.iload_n 2, 1) := by decide +kernel
theorem dX8_pairs_161 : decode cX8_pairs 161 = .ok (.iconst 1, 1) := by decide +kernel
theorem dX8_pairs_162 : decode cX8_pairs 162 = .ok (.iadd, 1) := by decide +kernel
theorem dX8_pairs_163 : decode cX8_pairs 163 = .ok (.iload_n 1, 1) := by decide +kernel
theorem dX8_pairs_164 : decode cX8_pairs 164 = .ok (.if_icmp .lt 7, 3) := by decide +kernel
theorem dX8_pairs_167 : decode cX8_pairs 167 = .ok (.iconst 0, 1) := by decide +kernel
theorem dX8_pairs_168 : decode cX8_pairs 168 = .ok (.goto 9, 3) := by decide +kernel
theorem dX8_pairs_171 : decode cX8_pairs 171 = .ok (.bipush 9, 2) := by decide +kernel
theorem dX8_pairs_173 : decode cX8_pairs 173 = .ok (.iload_n 2, 1) := by decide +kernel
theorem dX8_pairs_174 : decode cX8_pairs 174 = .ok (.iconst 1, 1) := by decide +kernel
theorem dX8_pairs_175 : decode cX8_pairs 175 = .ok (.iadd, 1) := by decide +kernel
theorem dX8_pairs_176 : decode cX8_pairs 176 = .ok (.imul, 1) := by decide +kernel
theorem dX8_pairs_177 : decode cX8_pairs 177 = .ok (.iload 7, 2) := by decide +kernel
theorem dX8_pairs_179 : decode cX8_pairs 179 = .ok (.iload 6, 2) := by decide +kernel
theorem dX8_pairs_181 : decode cX8_pairs 181 = .ok (.imul, 1) := by decide +kernel
theorem dX8_pairs_182 : decode cX8_pairs 182 = .ok (.iload 4, 2) := by decide +kernel
theorem dX8_pairs_184 : decode cX8_pairs 184 = .ok (.invokevirtual 180, 3) := by decide +kernel
theorem dX8_pairs_187 : decode cX8_pairs 187 = .ok (.aload_n 0, 1) := by decide +kernel
theorem dX8_pairs_188 : decode cX8_pairs 188 = .ok (.iconst 0, 1) := by decide +kernel
theorem dX8_pairs_189 : decode cX8_pairs 189 = .ok (.bipush 9, 2) := by decide +kernel
theorem dX8_pairs_191 : decode cX8_pairs 191 = .ok (.iload_n 2, 1) := by decide +kernel
theorem dX8_pairs_192 : decode cX8_pairs 192 = .ok (.iconst 1, 1) := by decide +kernel
theorem dX8_pairs_193 : decode cX8_pairs 193 = .ok (.iadd, 1) := by decide +kernel
theorem dX8_pairs_194 : decode cX8_pairs 194 = .ok (.imul, 1) := by decide +kernel
theorem dX8_pairs_195 : decode cX8_pairs 195 = .ok (.iload_n 3, 1) := by decide +kernel
theorem dX8_pairs_196 : decode cX8_pairs 196 = .ok (.iadd, 1) := by decide +kernel
theorem dX8_pairs_197 : decode cX8_pairs 197 = .ok (.iconst 1, 1) := by decide +kernel
theorem dX8_pairs_198 : decode cX8_pairs 198 = .ok (.iadd, 1) := by decide +kernel
theorem dX8_pairs_199 : decode cX8_pairs 199 = .ok (.iload 7, 2) := by decide +kernel
theorem dX8_pairs_201 : decode cX8_pairs 201 = .ok (.iload 8, 2) := by decide +kernel
theorem dX8_pairs_203 : decode cX8_pairs 203 = .ok (.imul, 1) := by decide +kernel
theorem dX8_pairs_204 : decode cX8_pairs 204 = .ok (.iload 4, 2) := by decide +kernel
theorem dX8_pairs_206 : decode cX8_pairs 206 = .ok (.invokevirtual 180, 3) := by decide +kernel
theorem dX8_pairs_209 : decode cX8_pairs 209 = .ok (.return_, 1) := by decide +kernel
set_option maxRecDepth 20000 in
theorem ggX8_pair_X8_isAge : GoodIn wsX8_pair wsX8_isAge := goodIn_r _ [14, 7, 15, 16, 13, 17, 50, 51, 52, 53, 54, 55, 56, 57, 58, 59, 60, 61, 62, 63, 64, 65, 66, 67, 68, 69, 70, 71, 72, 73, 74, 75, 76, 77, 78, 79, 80, 81, 82] (by decide +kernel) (by decide +kernel)
set_option maxRecDepth 20000 in
theorem gX8_pair_X8_isAge : GoodIn wsX8_pair (wsV RX8 110 RX8 yX8_isAge wsX8_isAge) := goodIn_app (goodIn_of _ (by decide +kernel)) ggX8_pair_X8_isAge
set_option maxRecDepth 20000 in
theorem ggX8_pair_X8_in : GoodIn wsX8_pair wsX8_in := goodIn_r _ [17] (by decide +kernel) (by decide +kernel)
set_option maxRecDepth 20000 in
theorem gX8_pair_X8_in : GoodIn wsX8_pair (va_wsS RX8 106 yX8_in wsX8_in) := goodIn_app (goodIn_of _ (by decide +kernel)) ggX8_pair_X8_in
set_option maxRecDepth 20000 in
theorem ggX8_pair_X8_pairs : GoodIn wsX8_pair wsX8_pairs := goodIn_r _ [21, 7, 8, 9, 22, 23, 24, 13, 25, 26, 27, 28, 29, 30, 31, 32, 3, 4, 33, 34, 35, 36, 37, 38, 39, 40, 41, 42, 43, 44, 45, 46, 47, 48, 49, 50, 51, 52, 53, 54, 55, 56, 57, 58, 59, 60, 61, 62, 63, 64, 65, 66, 67, 68, 69, 70, 71, 72, 73, 74, 75, 76, 77, 78, 79, 80, 81, 82] (by decide +kernel) (by decide +kernel)
set_option maxRecDepth 20000 in
theorem gX8_pair_X8_pairs : GoodIn wsX8_pair (wsV RX8 184 RX8 yX8_pairs wsX8_pairs) := goodIn_app (goodIn_of _ (by decide +kernel)) ggX8_pair_X8_pairs
theorem dX8_pair_0 : decode cX8_pair 0 = .ok (.aload_n 0, 1) := by decide +kernel
theorem dX8_pair_1 : decode cX8_pair 1 = .ok (.iload_n 1, 1) := by decide +kernel
theorem dX8_pair_2 : decode cX8_pair 2 = .ok (.invokevirtual 110, 3) := by decide +kernel
theorem dX8_pair_5 : decode cX8_pair 5 = .ok (.ifCond .eq 25, 3) := by decide +kernel
theorem dX8_pair_8 : decode cX8_pair 8 = .ok (.iload_n 2, 1) := by decide +kernel
theorem dX8_pair_9 : decode cX8_pair 9 = .ok (.i2l, 1) := by decide +kernel
theorem dX8_pair_10 : decode cX8_pair 10 = .ok (.lconst 0, 1) := by decide +kernel
theorem dX8_pair_11 : decode cX8_pair 11 = .ok (.ldc2_w 130, 3) := by decide +kernel
theorem dX8_pair_14 : decode cX8_pair 14 = .ok (.invokestatic 106, 3) := by decide +kernel
theorem dX8_pair_17 : decode cX8_pair 17 = .ok (.ifCond .eq 13, 3) := by decide +kernel
theorem dX8_pair_20 : decode cX8_pair 20 = .ok (.iload_n 3, 1) := by decide +kernel
theorem dX8_pair_21 : decode cX8_pair 21 = .ok (.i2l, 1) := by decide +kernel
theorem dX8_pair_22 : decode cX8_pair 22 = .ok (.lconst 0, 1) := by decide +kernel
theorem dX8_pair_23 : decode cX8_pair 23 = .ok (.lconst 1, 1) := by decide +kernel
theorem dX8_pair_24 : decode cX8_pair 24 = .ok (.invokestatic 106, 3) := by decide +kernel
theorem dX8_pair_27 : decode cX8_pair 27 = .ok (.ifCond .ne 7, 3) := by decide +kernel
theorem dX8_pair_30 : decode cX8_pair 30 = .ok (.ldc2_w 145, 3) := by decide +kernel
theorem dX8_pair_33 : decode cX8_pair 33 = .ok (.lreturn, 1) := by decide +kernel
theorem dX8_pair_34 : decode cX8_pair 34 = .ok (.iconst 0, 1) := by decide +kernel
theorem dX8_pair_35 : decode cX8_pair 35 = .ok (.istore 4, 2) := by decide +kernel
theorem dX8_pair_37 : decode cX8_pair 37 = .ok (.iload 4, 2) := by decide +kernel
theorem dX8_pair_39 : decode cX8_pair 39 = .ok (.bipush 81, 2) := by decide +kernel
theorem dX8_pair_41 : decode cX8_pair 41 = .ok (.if_icmp .ge 25, 3) := by decide +kernel
theorem dX8_pair_44 : decode cX8_pair 44 = .ok (.aload_n 0, 1) := by decide +kernel
theorem dX8_pair_45 : decode cX8_pair 45 = .ok (.getfield 57, 3) := by decide +kernel
theorem dX8_pair_48 : decode cX8_pair 48 = .ok (.iload 4, 2) := by decide +kernel
theorem dX8_pair_50 : decode cX8_pair 50 = .ok (.lconst 0, 1) := by decide +kernel
theorem dX8_pair_51 : decode cX8_pair 51 = .ok (.lastore, 1) := by decide +kernel
theorem dX8_pair_52 : decode cX8_pair 52 = .ok (.aload_n 0, 1) := by decide +kernel
theorem dX8_pair_53 : decode cX8_pair 53 = .ok (.getfield 60, 3) := by decide +kernel
theorem dX8_pair_56 : decode cX8_pair 56 = .ok (.iload 4, 2) := by decide +kernel
theorem dX8_pair_58 : decode cX8_pair 58 = .ok (.lconst 1, 1) := by decide +kernel
theorem dX8_pair_59 : decode cX8_pair 59 = .ok (.lastore, 1) := by decide +kernel
theorem dX8_pair_60 : decode cX8_pair 60 = .ok (.iinc 4 1, 3) := by decide +kernel
theorem dX8_pair_63 : decode cX8_pair 63 = .ok (.goto (-26), 3) := by decide +kernel
theorem dX8_pair_66 : decode cX8_pair 66 = .ok (.iconst 0, 1) := by decide +kernel
theorem dX8_pair_67 : decode cX8_pair 67 = .ok (.istore 4, 2) := by decide +kernel
theorem dX8_pair_69 : decode cX8_pair 69 = .ok (.iload 4, 2) := by decide +kernel
theorem dX8_pair_71 : decode cX8_pair 71 = .ok (.iload_n 2, 1) := by decide +kernel
theorem dX8_pair_72 : decode cX8_pair 72 = .ok (.if_icmp .ge 168, 3) := by decide +kernel
theorem dX8_pair_75 : decode cX8_pair 75 = .ok (.iconst 0, 1) := by decide +kernel
theorem dX8_pair_76 : decode cX8_pair 76 = .ok (.istore 5, 2) := by decide +kernel
theorem dX8_pair_78 : decode cX8_pair 78 = .ok (.iload 5, 2) := by decide +kernel
theorem dX8_pair_80 : decode cX8_pair 80 = .ok (.bipush 81, 2) := by decide +kernel
theorem dX8_pair_82 : decode cX8_pair 82 = .ok (.if_icmp .ge 108, 3) := by decide +kernel
theorem dX8_pair_85 : decode cX8_pair 85 = .ok (.aload_n 0, 1) := by decide +kernel
theorem dX8_pair_86 : decode cX8_pair 86 = .ok (.getfield 63, 3) := by decide +kernel
theorem dX8_pair_89 : decode cX8_pair 89 = .ok (.iload 5, 2) := by decide +kernel
theorem dX8_pair_91 : decode cX8_pair 91 = .ok (.lconst 0, 1) := by decide +kernel
theorem dX8_pair_92 : decode cX8_pair 92 = .ok (.lastore, 1) := by decide +kernel
theorem dX8_pair_93 : decode cX8_pair 93 = .ok (.aload_n 0, 1) := by decide +kernel
theorem dX8_pair_94 : decode cX8_pair 94 = .ok (.getfield 66, 3) := by decide +kernel
theorem dX8_pair_97 : decode cX8_pair 97 = .ok (.iload 5, 2) := by decide +kernel
theorem dX8_pair_99 : decode cX8_pair 99 = .ok (.lconst 1, 1) := by decide +kernel
theorem dX8_pair_100 : decode cX8_pair 100 = .ok (.lastore, 1) := by decide +kernel
theorem dX8_pair_101 : decode cX8_pair 101 = .ok (.iload 5, 2) := by decide +kernel
theorem dX8_pair_103 : decode cX8_pair 103 = .ok (.bipush 9, 2) := by decide +kernel
theorem dX8_pair_105 : decode cX8_pair 105 = .ok (.idiv, 1) := by decide +kernel
theorem dX8_pair_106 : decode cX8_pair 106 = .ok (.aload_n 0, 1) := by decide +kernel
theorem dX8_pair_107 : decode cX8_pair 107 = .ok (.getfield 7, 3) := by decide +kernel
theorem dX8_pair_110 : decode cX8_pair 110 = .ok (.iconst 0, 1) := by decide +kernel
theorem dX8_pair_111 : decode cX8_pair 111 = .ok (.iaload, 1) := by decide +kernel
theorem dX8_pair_112 : decode cX8_pair 112 = .ok (.if_icmp .ge 72, 3) := by decide +kernel
theorem dX8_pair_115 : decode cX8_pair 115 = .ok (.iload 5, 2) := by decide +kernel
theorem dX8_pair_117 : decode cX8_pair 117 = .ok (.bipush 9, 2) := by decide +kernel
theorem dX8_pair_119 : decode cX8_pair 119 = .ok (.irem, 1) := by decide +kernel
theorem dX8_pair_120 : decode cX8_pair 120 = .ok (.aload_n 0, 1) := by decide +kernel
theorem dX8_pair_121 : decode cX8_pair 121 = .ok (.getfield 7, 3) := by decide +kernel
theorem dX8_pair_124 : decode cX8_pair 124 = .ok (.iconst 0, 1) := by decide +kernel
theorem dX8_pair_125 : decode cX8_pair 125 = .ok (.iaload, 1) := by decide +kernel
theorem dX8_pair_126 : decode cX8_pair 126 = .ok (.if_icmp .ge 58, 3) := by decide +kernel
theorem dX8_pair_129 : decode cX8_pair 129 = .ok (.iload 5, 2) := by decide +kernel
theorem dX8_pair_131 : decode cX8_pair 131 = .ok (.bipush 9, 2) := by decide +kernel
theorem dX8_pair_133 : decode cX8_pair 133 = .ok (.idiv, 1) := by decide +kernel
theorem dX8_pair_134 : decode cX8_pair 134 = .ok (.iconst 3, 1) := by decide +kernel
theorem dX8_pair_135 : decode cX8_pair 135 = .ok (.if_icmp .ge 49, 3) := by decide +kernel
theorem dX8_pair_138 : decode cX8_pair 138 = .ok (.iload 5, 2) := by decide +kernel
theorem dX8_pair_140 : decode cX8_pair 140 = .ok (.bipush 9, 2) := by decide +kernel
theorem dX8_pair_142 : decode cX8_pair 142 = .ok (.irem, 1) := by decide +kernel
theorem dX8_pair_143 : decode cX8_pair 143 = .ok (.iconst 3, 1) := by decide +kernel
theorem dX8_pair_144 : decode cX8_pair 144 = .ok (.if_icmp .ge 40, 3) := by decide +kernel
theorem dX8_pair_147 : decode cX8_pair 147 = .ok (.aload_n 0, 1) := by decide +kernel
theorem dX8_pair_148 : decode cX8_pair 148 = .ok (.iload_n 1, 1) := by decide +kernel
theorem dX8_pair_149 : decode cX8_pair 149 = .ok (.iload 5, 2) := by decide +kernel
theorem dX8_pair_151 : decode cX8_pair 151 = .ok (.bipush 9, 2) := by decide +kernel
theorem dX8_pair_153 : decode cX8_pair 153 = .ok (.idiv, 1) := by decide +kernel
theorem dX8_pair_154 : decode cX8_pair 154 = .ok (.iload 5, 2) := by decide +kernel
theorem dX8_pair_156 : decode cX8_pair 156 = .ok (.bipush 9, 2) := by decide +kernel
theorem dX8_pair_158 : decode cX8_pair 158 = .ok (.irem, 1) := by decide +kernel
theorem dX8_pair_159 : decode cX8_pair 159 = .ok (.invokevirtual 184, 3) := by decide +kernel
theorem dX8_pair_162 : decode cX8_pair 162 = .ok (.aload_n 0, 1) := by decide +kernel
theorem dX8_pair_163 : decode cX8_pair 163 = .ok (.getfield 63, 3) := by decide +kernel
theorem dX8_pair_166 : decode cX8_pair 166 = .ok (.iload 5, 2) := by decide +kernel
theorem dX8_pair_168 : decode cX8_pair 168 = .ok (.aload_n 0, 1) := by decide +kernel
theorem dX8_pair_169 : decode cX8_pair 169 = .ok (.getfield 174, 3) := by decide +kernel
theorem dX8_pair_172 : decode cX8_pair 172 = .ok (.lastore, 1) := by decide +kernel
theorem dX8_pair_173 : decode cX8_pair 173 = .ok (.aload_n 0, 1) := by decide +kernel
theorem dX8_pair_174 : decode cX8_pair 174 = .ok (.getfield 66, 3) := by decide +kernel
theorem dX8_pair_177 : decode cX8_pair 177 = .ok (.iload 5, 2) := by decide +kernel
theorem dX8_pair_179 : decode cX8_pair 179 = .ok (.aload_n 0, 1) := by decide +kernel
theorem dX8_pair_180 : decode cX8_pair 180 = .ok (.getfield 177, 3) := by decide +kernel
theorem dX8_pair_183 : decode cX8_pair 183 = .ok (.lastore, 1) := by decide +kernel
theorem dX8_pair_184 : decode cX8_pair 184 = .ok (.iinc 5 1, 3) := by decide +kernel
theorem dX8_pair_187 : decode cX8_pair 187 = .ok (.goto (-109), 3) := by decide +kernel
theorem dX8_pair_190 : decode cX8_pair 190 = .ok (.iconst 0, 1) := by decide +kernel
theorem dX8_pair_191 : decode cX8_pair 191 = .ok (.istore 5, 2) := by decide +kernel
theorem dX8_pair_193 : decode cX8_pair 193 = .ok (.iload 5, 2) := by decide +kernel
theorem dX8_pair_195 : decode cX8_pair 195 = .ok (.bipush 81, 2) := by decide +kernel
theorem dX8_pair_197 : decode cX8_pair 197 = .ok (.if_icmp .ge 37, 3) := by decide +kernel
theorem dX8_pair_200 : decode cX8_pair 200 = .ok (.aload_n 0, 1) := by decide +kernel
theorem dX8_pair_201 : decode cX8_pair 201 = .ok (.getfield 57, 3) := by decide +kernel
theorem dX8_pair_204 : decode cX8_pair 204 = .ok (.iload 5, 2) := by decide +kernel
theorem dX8_pair_206 : decode cX8_pair 206 = .ok (.aload_n 0, 1) := by decide +kernel
theorem dX8_pair_207 : decode cX8_pair 207 = .ok (.getfield 63, 3) := by decide +kernel
theorem dX8_pair_210 : decode cX8_pair 210 = .ok (.iload 5, 2) := by decide +kernel
theorem dX8_pair_212 : decode cX8_pair 212 = .ok (.laload, 1) := by decide +kernel
theorem dX8_pair_213 : decode cX8_pair 213 = .ok (.lastore, 1) := by decide +kernel
theorem dX8_pair_214 : decode cX8_pair 214 = .ok (.aload_n 0, 1) := by decide +kernel
theorem dX8_pair_215 : decode cX8_pair 215 = .ok (.getfield 60, 3) := by decide +kernel
theorem dX8_pair_218 : decode cX8_pair 218 = .ok (.iload 5, 2) := by decide +kernel
theorem dX8_pair_220 : decode cX8_pair 220 = .ok (.aload_n 0, 1) := by decide +kernel
theorem dX8_pair_221 : decode cX8_pair 221 = .ok (.getfield 66, 3) := by decide +kernel
theorem dX8_pair_224 : decode cX8_pair 224 = .ok (.iload 5, 2) := by decide +kernel
theorem dX8_pair_226 : decode cX8_pair 226 = .ok (.laload, 1) := by decide +kernel
theorem dX8_pair_227 : decode cX8_pair 227 = .ok (.lastore, 1) := by decide +kernel
theorem dX8_pair_228 : decode cX8_pair 228 = .ok (.iinc 5 1, 3) := by decide +kernel
theorem dX8_pair_231 : decode cX8_pair 231 = .ok (.goto (-38), 3) := by decide +kernel
theorem dX8_pair_234 : decode cX8_pair 234 = .ok (.iinc 4 1, 3) := by decide +kernel
theorem dX8_pair_237 : decode cX8_pair 237 = .ok (.goto (-168), 3) := by decide +kernel
theorem dX8_pair_240 : decode cX8_pair 240 = .ok (.iload_n 3, 1) := by decide +kernel
theorem dX8_pair_241 : decode cX8_pair 241 = .ok (.ifCond .ne 12, 3) := by decide +kernel
theorem dX8_pair_244 : decode cX8_pair 244 = .ok (.aload_n 0, 1) := by decide +kernel
theorem dX8_pair_245 : decode cX8_pair 245 = .ok (.getfield 57, 3) := by decide +kernel
theorem dX8_pair_248 : decode cX8_pair 248 = .ok (.iconst 0, 1) := by decide +kernel
theorem dX8_pair_249 : decode cX8_pair 249 = .ok (.laload, 1) := by decide +kernel
theorem dX8_pair_250 : decode cX8_pair 250 = .ok (.goto 9, 3) := by decide +kernel
theorem dX8_pair_253 : decode cX8_pair 253 = .ok (.aload_n 0, 1) := by decide +kernel
theorem dX8_pair_254 : decode cX8_pair 254 = .ok (.getfield 60, 3) := by decide +kernel
theorem dX8_pair_257 : decode cX8_pair 257 = .ok (.iconst 0, 1) := by decide +kernel
theorem dX8_pair_258 : decode cX8_pair 258 = .ok (.laload, 1) := by decide +kernel
theorem dX8_pair_259 : decode cX8_pair 259 = .ok (.lreturn, 1) := by decide +kernel
theorem dX8_draws_0 : decode cX8_draws 0 = .ok (.aload_n 0, 1) := by decide +kernel
theorem dX8_draws_1 : decode cX8_draws 1 = .ok (.getfield 7, 3) := by decide +kernel
theorem dX8_draws_4 : decode cX8_draws 4 = .ok (.bipush 12, 2) := by decide +kernel
theorem dX8_draws_6 : decode cX8_draws 6 = .ok (.iaload, 1) := by decide +kernel
theorem dX8_draws_7 : decode cX8_draws 7 = .ok (.i2l, 1) := by decide +kernel
theorem dX8_draws_8 : decode cX8_draws 8 = .ok (.ldc2_w 188, 3) := by decide +kernel
theorem dX8_draws_11 : decode cX8_draws 11 = .ok (.lmul, 1) := by decide +kernel
theorem dX8_draws_12 : decode cX8_draws 12 = .ok (.ldc2_w 190, 3) := by decide +kernel
theorem dX8_draws_15 : decode cX8_draws 15 = .ok (.ladd, 1) := by decide +kernel
theorem dX8_draws_16 : decode cX8_draws 16 = .ok (.lstore_n 1, 1) := by decide +kernel
theorem dX8_draws_17 : decode cX8_draws 17 = .ok (.aload_n 0, 1) := by decide +kernel
theorem dX8_draws_18 : decode cX8_draws 18 = .ok (.getfield 7, 3) := by decide +kernel
theorem dX8_draws_21 : decode cX8_draws 21 = .ok (.bipush 12, 2) := by decide +kernel
theorem dX8_draws_23 : decode cX8_draws 23 = .ok (.lload_n 1, 1) := by decide +kernel
theorem dX8_draws_24 : decode cX8_draws 24 = .ok (.ldc2_w 192, 3) := by decide +kernel
theorem dX8_draws_27 : decode cX8_draws 27 = .ok (.lrem, 1) := by decide +kernel
theorem dX8_draws_28 : decode cX8_draws 28 = .ok (.l2i, 1) := by decide +kernel
theorem dX8_draws_29 : decode cX8_draws 29 = .ok (.iastore, 1) := by decide +kernel
theorem dX8_draws_30 : decode cX8_draws 30 = .ok (.aload_n 0, 1) := by decide +kernel
theorem dX8_draws_31 : decode cX8_draws 31 = .ok (.getfield 7, 3) := by decide +kernel
theorem dX8_draws_34 : decode cX8_draws 34 = .ok (.bipush 12, 2) := by decide +kernel
theorem dX8_draws_36 : decode cX8_draws 36 = .ok (.iaload, 1) := by decide +kernel
theorem dX8_draws_37 : decode cX8_draws 37 = .ok (.ldc 194, 2) := by decide +kernel
theorem dX8_draws_39 : decode cX8_draws 39 = .ok (.idiv, 1) := by decide +kernel
theorem dX8_draws_40 : decode cX8_draws 40 = .ok (.ireturn, 1) := by decide +kernel
set_option maxRecDepth 20000 in
theorem ggX8_runsOnce_X8_draws : GoodIn wsX8_runsOnce wsX8_draws := goodIn_r _ [6, 1, 7, 8, 9, 10, 18, 19, 20, 21, 22, 23, 24, 25, 26, 27, 28, 29, 30, 31, 32, 33, 34, 35, 36, 37, 38, 39, 40, 41, 42, 43, 44, 45, 46, 47, 48, 49, 50] (by decide +kernel) (by decide +kernel)
set_option maxRecDepth 20000 in
theorem gX8_runsOnce_X8_draws : GoodIn wsX8_runsOnce (wsV RX8 195 RX8 yX8_draws wsX8_draws) := goodIn_app (goodIn_of _ (by decide +kernel)) ggX8_runsOnce_X8_draws
set_option maxRecDepth 20000 in
theorem ggX8_runsOnce_X8_leftOf : GoodIn wsX8_runsOnce wsX8_leftOf := goodIn_r _ [14, 1, 15, 16, 5, 17, 18, 19, 20, 21, 22, 23, 24, 25, 26, 27, 28, 29, 30, 31, 32, 33, 34, 35, 36, 37, 38, 39, 40, 41, 42, 43, 44, 45, 46, 47, 48, 49, 50] (by decide +kernel) (by decide +kernel)
set_option maxRecDepth 20000 in
theorem gX8_runsOnce_X8_leftOf : GoodIn wsX8_runsOnce (wsV RX8 116 RX8 yX8_leftOf wsX8_leftOf) := goodIn_app (goodIn_of _ (by decide +kernel)) ggX8_runsOnce_X8_leftOf
theorem dX8_runsOnce_0 : decode cX8_runsOnce 0 = .ok (.aload_n 0, 1) := by decide +kernel
theorem dX8_runsOnce_1 : decode cX8_runsOnce 1 = .ok (.invokevirtual 195, 3) := by decide +kernel
theorem dX8_runsOnce_4 : decode cX8_runsOnce 4 = .ok (.istore_n 1, 1) := by decide +kernel
theorem dX8_runsOnce_5 : decode cX8_runsOnce 5 = .ok (.aload_n 0, 1) := by decide +kernel
theorem dX8_runsOnce_6 : decode cX8_runsOnce 6 = .ok (.getfield 7, 3) := by decide +kernel
theorem dX8_runsOnce_9 : decode cX8_runsOnce 9 = .ok (.bipush 13, 2) := by decide +kernel
theorem dX8_runsOnce_11 : decode cX8_runsOnce 11 = .ok (.iaload, 1) := by decide +kernel
theorem dX8_runsOnce_12 : decode cX8_runsOnce 12 = .ok (.istore_n 2, 1) := by decide +kernel
theorem dX8_runsOnce_13 : decode cX8_runsOnce 13 = .ok (.aload_n 0, 1) := by decide +kernel
theorem dX8_runsOnce_14 : decode cX8_runsOnce 14 = .ok (.getfield 7, 3) := by decide +kernel
theorem dX8_runsOnce_17 : decode cX8_runsOnce 17 = .ok (.bipush 16, 2) := by decide +kernel
theorem dX8_runsOnce_19 : decode cX8_runsOnce 19 = .ok (.dup2, 1) := by decide +kernel
theorem dX8_runsOnce_20 : decode cX8_runsOnce 20 = .ok (.iaload, 1) := by decide +kernel
theorem dX8_runsOnce_21 : decode cX8_runsOnce 21 = .ok (.iconst 1, 1) := by decide +kernel
theorem dX8_runsOnce_22 : decode cX8_runsOnce 22 = .ok (.iadd, 1) := by decide +kernel
theorem dX8_runsOnce_23 : decode cX8_runsOnce 23 = .ok (.iastore, 1) := by decide +kernel
theorem dX8_runsOnce_24 : decode cX8_runsOnce 24 = .ok (.iload_n 1, 1) := by decide +kernel
theorem dX8_runsOnce_25 : decode cX8_runsOnce 25 = .ok (.aload_n 0, 1) := by decide +kernel
theorem dX8_runsOnce_26 : decode cX8_runsOnce 26 = .ok (.iload_n 2, 1) := by decide +kernel
theorem dX8_runsOnce_27 : decode cX8_runsOnce 27 = .ok (.invokevirtual 116, 3) := by decide +kernel
theorem dX8_runsOnce_30 : decode cX8_runsOnce 30 = .ok (.irem, 1) := by decide +kernel
theorem dX8_runsOnce_31 : decode cX8_runsOnce 31 = .ok (.aload_n 0, 1) := by decide +kernel
theorem dX8_runsOnce_32 : decode cX8_runsOnce 32 = .ok (.getfield 7, 3) := by decide +kernel
theorem dX8_runsOnce_35 : decode cX8_runsOnce 35 = .ok (.iload_n 2, 1) := by decide +kernel
theorem dX8_runsOnce_36 : decode cX8_runsOnce 36 = .ok (.iconst 1, 1) := by decide +kernel
theorem dX8_runsOnce_37 : decode cX8_runsOnce 37 = .ok (.iadd, 1) := by decide +kernel
theorem dX8_runsOnce_38 : decode cX8_runsOnce 38 = .ok (.iaload, 1) := by decide +kernel
theorem dX8_runsOnce_39 : decode cX8_runsOnce 39 = .ok (.if_icmp .ge 41, 3) := by decide +kernel
theorem dX8_runsOnce_42 : decode cX8_runsOnce 42 = .ok (.aload_n 0, 1) := by decide +kernel
theorem dX8_runsOnce_43 : decode cX8_runsOnce 43 = .ok (.getfield 7, 3) := by decide +kernel
theorem dX8_runsOnce_46 : decode cX8_runsOnce 46 = .ok (.bipush 17, 2) := by decide +kernel
theorem dX8_runsOnce_48 : decode cX8_runsOnce 48 = .ok (.dup2, 1) := by decide +kernel
theorem dX8_runsOnce_49 : decode cX8_runsOnce 49 = .ok (.iaload, 1) := by decide +kernel
theorem dX8_runsOnce_50 : decode cX8_runsOnce 50 = .ok (.aload_n 0, 1) := by decide +kernel
theorem dX8_runsOnce_51 : decode cX8_runsOnce 51 = .ok (.getfield 7, 3) := by decide +kernel
theorem dX8_runsOnce_54 : decode cX8_runsOnce 54 = .ok (.bipush 9, 2) := by decide +kernel
theorem dX8_runsOnce_56 : decode cX8_runsOnce 56 = .ok (.iaload, 1) := by decide +kernel
theorem dX8_runsOnce_57 : decode cX8_runsOnce 57 = .ok (.iadd, 1) := by decide +kernel
theorem dX8_runsOnce_58 : decode cX8_runsOnce 58 = .ok (.iastore, 1) := by decide +kernel
theorem dX8_runsOnce_59 : decode cX8_runsOnce 59 = .ok (.aload_n 0, 1) := by decide +kernel
theorem dX8_runsOnce_60 : decode cX8_runsOnce 60 = .ok (.getfield 7, 3) := by decide +kernel
theorem dX8_runsOnce_63 : decode cX8_runsOnce 63 = .ok (.bipush 14, 2) := by decide +kernel
theorem dX8_runsOnce_65 : decode cX8_runsOnce 65 = .ok (.dup2, 1) := by decide +kernel
theorem dX8_runsOnce_66 : decode cX8_runsOnce 66 = .ok (.iaload, 1) := by decide +kernel
theorem dX8_runsOnce_67 : decode cX8_runsOnce 67 = .ok (.iconst 1, 1) := by decide +kernel
theorem dX8_runsOnce_68 : decode cX8_runsOnce 68 = .ok (.iadd, 1) := by decide +kernel
theorem dX8_runsOnce_69 : decode cX8_runsOnce 69 = .ok (.iastore, 1) := by decide +kernel
theorem dX8_runsOnce_70 : decode cX8_runsOnce 70 = .ok (.aload_n 0, 1) := by decide +kernel
theorem dX8_runsOnce_71 : decode cX8_runsOnce 71 = .ok (.getfield 7, 3) := by decide +kernel
theorem dX8_runsOnce_74 : decode cX8_runsOnce 74 = .ok (.bipush 13, 2) := by decide +kernel
theorem dX8_runsOnce_76 : decode cX8_runsOnce 76 = .ok (.iconst 0, 1) := by decide +kernel
theorem dX8_runsOnce_77 : decode cX8_runsOnce 77 = .ok (.iastore, 1) := by decide +kernel
theorem dX8_runsOnce_78 : decode cX8_runsOnce 78 = .ok (.iconst 1, 1) := by decide +kernel
theorem dX8_runsOnce_79 : decode cX8_runsOnce 79 = .ok (.ireturn, 1) := by decide +kernel
theorem dX8_runsOnce_80 : decode cX8_runsOnce 80 = .ok (.aload_n 0, 1) := by decide +kernel
theorem dX8_runsOnce_81 : decode cX8_runsOnce 81 = .ok (.getfield 7, 3) := by decide +kernel
theorem dX8_runsOnce_84 : decode cX8_runsOnce 84 = .ok (.bipush 13, 2) := by decide +kernel
theorem dX8_runsOnce_86 : decode cX8_runsOnce 86 = .ok (.iload_n 2, 1) := by decide +kernel
theorem dX8_runsOnce_87 : decode cX8_runsOnce 87 = .ok (.iconst 1, 1) := by decide +kernel
theorem dX8_runsOnce_88 : decode cX8_runsOnce 88 = .ok (.iadd, 1) := by decide +kernel
theorem dX8_runsOnce_89 : decode cX8_runsOnce 89 = .ok (.iastore, 1) := by decide +kernel
theorem dX8_runsOnce_90 : decode cX8_runsOnce 90 = .ok (.iload_n 2, 1) := by decide +kernel
theorem dX8_runsOnce_91 : decode cX8_runsOnce 91 = .ok (.iconst 1, 1) := by decide +kernel
theorem dX8_runsOnce_92 : decode cX8_runsOnce 92 = .ok (.iadd, 1) := by decide +kernel
theorem dX8_runsOnce_93 : decode cX8_runsOnce 93 = .ok (.aload_n 0, 1) := by decide +kernel
theorem dX8_runsOnce_94 : decode cX8_runsOnce 94 = .ok (.getfield 7, 3) := by decide +kernel
theorem dX8_runsOnce_97 : decode cX8_runsOnce 97 = .ok (.bipush 11, 2) := by decide +kernel
theorem dX8_runsOnce_99 : decode cX8_runsOnce 99 = .ok (.iaload, 1) := by decide +kernel
theorem dX8_runsOnce_100 : decode cX8_runsOnce 100 = .ok (.if_icmp .lt 39, 3) := by decide +kernel
theorem dX8_runsOnce_103 : decode cX8_runsOnce 103 = .ok (.aload_n 0, 1) := by decide +kernel
theorem dX8_runsOnce_104 : decode cX8_runsOnce 104 = .ok (.getfield 7, 3) := by decide +kernel
theorem dX8_runsOnce_107 : decode cX8_runsOnce 107 = .ok (.bipush 17, 2) := by decide +kernel
theorem dX8_runsOnce_109 : decode cX8_runsOnce 109 = .ok (.dup2, 1) := by decide +kernel
theorem dX8_runsOnce_110 : decode cX8_runsOnce 110 = .ok (.iaload, 1) := by decide +kernel
theorem dX8_runsOnce_111 : decode cX8_runsOnce 111 = .ok (.aload_n 0, 1) := by decide +kernel
theorem dX8_runsOnce_112 : decode cX8_runsOnce 112 = .ok (.getfield 7, 3) := by decide +kernel
theorem dX8_runsOnce_115 : decode cX8_runsOnce 115 = .ok (.bipush 10, 2) := by decide +kernel
theorem dX8_runsOnce_117 : decode cX8_runsOnce 117 = .ok (.iaload, 1) := by decide +kernel
theorem dX8_runsOnce_118 : decode cX8_runsOnce 118 = .ok (.iadd, 1) := by decide +kernel
theorem dX8_runsOnce_119 : decode cX8_runsOnce 119 = .ok (.iastore, 1) := by decide +kernel
theorem dX8_runsOnce_120 : decode cX8_runsOnce 120 = .ok (.aload_n 0, 1) := by decide +kernel
theorem dX8_runsOnce_121 : decode cX8_runsOnce 121 = .ok (.getfield 7, 3) := by decide +kernel
theorem dX8_runsOnce_124 : decode cX8_runsOnce 124 = .ok (.bipush 15, 2) := by decide +kernel
theorem dX8_runsOnce_126 : decode cX8_runsOnce 126 = .ok (.dup2, 1) := by decide +kernel
theorem dX8_runsOnce_127 : decode cX8_runsOnce 127 = .ok (.iaload, 1) := by decide +kernel
theorem dX8_runsOnce_128 : decode cX8_runsOnce 128 = .ok (.iconst 1, 1) := by decide +kernel
theorem dX8_runsOnce_129 : decode cX8_runsOnce 129 = .ok (.iadd, 1) := by decide +kernel
theorem dX8_runsOnce_130 : decode cX8_runsOnce 130 = .ok (.iastore, 1) := by decide +kernel
theorem dX8_runsOnce_131 : decode cX8_runsOnce 131 = .ok (.aload_n 0, 1) := by decide +kernel
theorem dX8_runsOnce_132 : decode cX8_runsOnce 132 = .ok (.getfield 7, 3) := by decide +kernel
theorem dX8_runsOnce_135 : decode cX8_runsOnce 135 = .ok (.bipush 13, 2) := by decide +kernel
theorem dX8_runsOnce_137 : decode cX8_runsOnce 137 = .ok (.iconst 0, 1) := by decide +kernel
theorem dX8_runsOnce_138 : decode cX8_runsOnce 138 = .ok (.iastore, 1) := by decide +kernel
theorem dX8_runsOnce_139 : decode cX8_runsOnce 139 = .ok (.iconst 0, 1) := by decide +kernel
theorem dX8_runsOnce_140 : decode cX8_runsOnce 140 = .ok (.ireturn, 1) := by decide +kernel
set_option maxRecDepth 20000 in
theorem ggX8_run_X8_in : GoodIn wsX8_run wsX8_in := goodIn_r _ [5] (by decide +kernel) (by decide +kernel)
set_option maxRecDepth 20000 in
theorem gX8_run_X8_in : GoodIn wsX8_run (va_wsS RX8 106 yX8_in wsX8_in) := goodIn_app (goodIn_of _ (by decide +kernel)) ggX8_run_X8_in
set_option maxRecDepth 20000 in
theorem ggX8_run_X8_notes : GoodIn wsX8_run wsX8_notes := goodIn_r _ [9, 10, 11, 12, 13, 14, 4, 15, 35, 36, 37, 38, 39, 40, 41, 42, 43, 44, 45, 46, 47, 48, 49, 50, 51, 52, 53, 54, 55, 56, 57, 58, 59, 60, 61, 62, 63, 64, 65, 66, 67] (by decide +kernel) (by decide +kernel)
set_option maxRecDepth 20000 in
theorem gX8_run_X8_notes : GoodIn wsX8_run (wsV RX8 120 RX8 yX8_notes wsX8_notes) := goodIn_app (goodIn_of _ (by decide +kernel)) ggX8_run_X8_notes
set_option maxRecDepth 20000 in
theorem ggX8_run_X8_runsOnce : GoodIn wsX8_run wsX8_runsOnce := goodIn_r _ [19, 12, 20, 21, 22, 4, 23, 24, 25, 26, 27, 28, 29, 30, 31, 32, 33, 34, 35, 36, 37, 38, 39, 40, 41, 42, 43, 44, 45, 46, 47, 48, 49, 50, 51, 52, 53, 54, 55, 56, 57, 58, 59, 60, 61, 62, 63, 64, 65, 66, 67] (by decide +kernel) (by decide +kernel)
set_option maxRecDepth 20000 in
theorem gX8_run_X8_runsOnce : GoodIn wsX8_run (wsV RX8 201 RX8 yX8_runsOnce wsX8_runsOnce) := goodIn_app (goodIn_of _ (by decide +kernel)) ggX8_run_X8_runsOnce
theorem dX8_run_0 : decode cX8_run 0 = .ok (.iload_n 1, 1) := by decide +kernel
theorem dX8_run_1 : decode cX8_run 1 = .ok (.i2l, 1) := by decide +kernel
theorem dX8_run_2 : decode cX8_run 2 = .ok (.lconst 1, 1) := by decide +kernel
theorem dX8_run_3 : decode cX8_run 3 = .ok (.ldc2_w 199, 3) := by decide +kernel
theorem dX8_run_6 : decode cX8_run 6 = .ok (.invokestatic 106, 3) := by decide +kernel
theorem dX8_run_9 : decode cX8_run 9 = .ok (.ifCond .ne 5, 3) := by decide +kernel
theorem dX8_run_12 : decode cX8_run 12 = .ok (.iconst (-1), 1) := by decide +kernel
theorem dX8_run_13 : decode cX8_run 13 = .ok (.ireturn, 1) := by decide +kernel
theorem dX8_run_14 : decode cX8_run 14 = .ok (.aload_n 0, 1) := by decide +kernel
theorem dX8_run_15 : decode cX8_run 15 = .ok (.invokevirtual 120, 3) := by decide +kernel
theorem dX8_run_18 : decode cX8_run 18 = .ok (.iconst 0, 1) := by decide +kernel
theorem dX8_run_19 : decode cX8_run 19 = .ok (.istore_n 2, 1) := by decide +kernel
theorem dX8_run_20 : decode cX8_run 20 = .ok (.iconst 0, 1) := by decide +kernel
theorem dX8_run_21 : decode cX8_run 21 = .ok (.istore_n 3, 1) := by decide +kernel
theorem dX8_run_22 : decode cX8_run 22 = .ok (.iload_n 3, 1) := by decide +kernel
theorem dX8_run_23 : decode cX8_run 23 = .ok (.iload_n 1, 1) := by decide +kernel
theorem dX8_run_24 : decode cX8_run 24 = .ok (.if_icmp .ge 16, 3) := by decide +kernel
theorem dX8_run_27 : decode cX8_run 27 = .ok (.iload_n 2, 1) := by decide +kernel
theorem dX8_run_28 : decode cX8_run 28 = .ok (.aload_n 0, 1) := by decide +kernel
theorem dX8_run_29 : decode cX8_run 29 = .ok (.invokevirtual 201, 3) := by decide +kernel
theorem dX8_run_32 : decode cX8_run 32 = .ok (.iadd, 1) := by decide +kernel
theorem dX8_run_33 : decode cX8_run 33 = .ok (.istore_n 2, 1) := by decide +kernel
theorem dX8_run_34 : decode cX8_run 34 = .ok (.iinc 3 1, 3) := by decide +kernel
theorem dX8_run_37 : decode cX8_run 37 = .ok (.goto (-15), 3) := by decide +kernel
theorem dX8_run_40 : decode cX8_run 40 = .ok (.iload_n 2, 1) := by decide +kernel
theorem dX8_run_41 : decode cX8_run 41 = .ok (.ireturn, 1) := by decide +kernel
set_option maxRecDepth 20000 in
theorem ggX8_count_X8_leftOf : GoodIn wsX8_count wsX8_leftOf := goodIn_r _ [7, 1, 8, 9, 6, 10, 56, 57, 58, 59, 60, 61, 62, 63, 64, 65, 66, 67, 68, 69, 70, 71, 72, 73, 74, 75, 76, 77, 78, 79, 80, 81, 82, 83, 84, 85, 86, 87, 88] (by decide +kernel) (by decide +kernel)
set_option maxRecDepth 20000 in
theorem gX8_count_X8_leftOf : GoodIn wsX8_count (wsV RX8 116 RX8 yX8_leftOf wsX8_leftOf) := goodIn_app (goodIn_of _ (by decide +kernel)) ggX8_count_X8_leftOf
set_option maxRecDepth 20000 in
theorem ggX8_count_X8_isSteady : GoodIn wsX8_count wsX8_isSteady := goodIn_r _ [14, 1, 15, 16, 17, 18, 19, 6, 20, 3, 4, 5, 7, 8, 9, 10, 21, 22, 23, 24, 25, 26, 27, 28, 29, 30, 56, 57, 58, 59, 60, 61, 62, 63, 64, 65, 66, 67, 68, 69, 70, 71, 72, 73, 74, 75, 76, 77, 78, 79, 80, 81, 82, 83, 84, 85, 86, 87, 88] (by decide +kernel) (by decide +kernel)
set_option maxRecDepth 20000 in
theorem gX8_count_X8_isSteady : GoodIn wsX8_count (wsV RX8 204 RX8 yX8_isSteady wsX8_isSteady) := goodIn_app (goodIn_of _ (by decide +kernel)) ggX8_count_X8_isSteady
set_option maxRecDepth 20000 in
theorem ggX8_count_X8_bestAge : GoodIn wsX8_count wsX8_bestAge := goodIn_r _ [34, 15, 16, 35, 36, 37, 6, 38, 1, 8, 9, 10, 21, 22, 23, 24, 25, 26, 27, 28, 29, 30, 56, 57, 58, 59, 60, 61, 62, 63, 64, 65, 66, 67, 68, 69, 70, 71, 72, 73, 74, 75, 76, 77, 78, 79, 80, 81, 82, 83, 84, 85, 86, 87, 88] (by decide +kernel) (by decide +kernel)
set_option maxRecDepth 20000 in
theorem gX8_count_X8_bestAge : GoodIn wsX8_count (wsV RX8 207 RX8 yX8_bestAge wsX8_bestAge) := goodIn_app (goodIn_of _ (by decide +kernel)) ggX8_count_X8_bestAge
set_option maxRecDepth 20000 in
theorem ggX8_count_X8_bestBlock : GoodIn wsX8_count wsX8_bestBlock := goodIn_r _ [42, 15, 16, 43, 44, 45, 6, 46, 47, 1, 48, 49, 50, 51, 3, 4, 5, 7, 8, 9, 10, 52, 53, 54, 55, 21, 22, 23, 24, 25, 26, 27, 28, 29, 30, 56, 57, 58, 59, 60, 61, 62, 63, 64, 65, 66, 67, 68, 69, 70, 71, 72, 73, 74, 75, 76, 77, 78, 79, 80, 81, 82, 83, 84, 85, 86, 87, 88] (by decide +kernel) (by decide +kernel)
set_option maxRecDepth 20000 in
theorem gX8_count_X8_bestBlock : GoodIn wsX8_count (wsV RX8 211 RX8 yX8_bestBlock wsX8_bestBlock) := goodIn_app (goodIn_of _ (by decide +kernel)) ggX8_count_X8_bestBlock
theorem dX8_count_0 : decode cX8_count 0 = .ok (.iload_n 1, 1) := by decide +kernel
theorem dX8_count_1 : decode cX8_count 1 = .ok (.tableswitch 161 0 13 #[71, 78, 84, 84, 84, 96, 96, 96, 96, 96, 108, 136, 151, 156], 71) := by decide +kernel
theorem dX8_count_72 : decode cX8_count 72 = .ok (.aload_n 0, 1) := by decide +kernel
theorem dX8_count_73 : decode cX8_count 73 = .ok (.getfield 7, 3) := by decide +kernel
theorem dX8_count_76 : decode cX8_count 76 = .ok (.iconst 0, 1) := by decide +kernel
theorem dX8_count_77 : decode cX8_count 77 = .ok (.iaload, 1) := by decide +kernel
theorem dX8_count_78 : decode cX8_count 78 = .ok (.ireturn, 1) := by decide +kernel
theorem dX8_count_79 : decode cX8_count 79 = .ok (.aload_n 0, 1) := by decide +kernel
theorem dX8_count_80 : decode cX8_count 80 = .ok (.iconst 0, 1) := by decide +kernel
theorem dX8_count_81 : decode cX8_count 81 = .ok (.invokevirtual 116, 3) := by decide +kernel
theorem dX8_count_84 : decode cX8_count 84 = .ok (.ireturn, 1) := by decide +kernel
theorem dX8_count_85 : decode cX8_count 85 = .ok (.aload_n 0, 1) := by decide +kernel
theorem dX8_count_86 : decode cX8_count 86 = .ok (.getfield 7, 3) := by decide +kernel
theorem dX8_count_89 : decode cX8_count 89 = .ok (.bipush 9, 2) := by decide +kernel
theorem dX8_count_91 : decode cX8_count 91 = .ok (.iload_n 1, 1) := by decide +kernel
theorem dX8_count_92 : decode cX8_count 92 = .ok (.iadd, 1) := by decide +kernel
theorem dX8_count_93 : decode cX8_count 93 = .ok (.iconst 2, 1) := by decide +kernel
theorem dX8_count_94 : decode cX8_count 94 = .ok (.isub, 1) := by decide +kernel
theorem dX8_count_95 : decode cX8_count 95 = .ok (.iaload, 1) := by decide +kernel
theorem dX8_count_96 : decode cX8_count 96 = .ok (.ireturn, 1) := by decide +kernel
theorem dX8_count_97 : decode cX8_count 97 = .ok (.aload_n 0, 1) := by decide +kernel
theorem dX8_count_98 : decode cX8_count 98 = .ok (.getfield 7, 3) := by decide +kernel
theorem dX8_count_101 : decode cX8_count 101 = .ok (.bipush 13, 2) := by decide +kernel
theorem dX8_count_103 : decode cX8_count 103 = .ok (.iload_n 1, 1) := by decide +kernel
theorem dX8_count_104 : decode cX8_count 104 = .ok (.iadd, 1) := by decide +kernel
theorem dX8_count_105 : decode cX8_count 105 = .ok (.iconst 5, 1) := by decide +kernel
theorem dX8_count_106 : decode cX8_count 106 = .ok (.isub, 1) := by decide +kernel
theorem dX8_count_107 : decode cX8_count 107 = .ok (.iaload, 1) := by decide +kernel
theorem dX8_count_108 : decode cX8_count 108 = .ok (.ireturn, 1) := by decide +kernel
theorem dX8_count_109 : decode cX8_count 109 = .ok (.aload_n 0, 1) := by decide +kernel
theorem dX8_count_110 : decode cX8_count 110 = .ok (.iconst 0, 1) := by decide +kernel
theorem dX8_count_111 : decode cX8_count 111 = .ok (.invokevirtual 204, 3) := by decide +kernel
theorem dX8_count_114 : decode cX8_count 114 = .ok (.ifCond .eq 7, 3) := by decide +kernel
theorem dX8_count_117 : decode cX8_count 117 = .ok (.iconst 1, 1) := by decide +kernel
theorem dX8_count_118 : decode cX8_count 118 = .ok (.goto 4, 3) := by decide +kernel
theorem dX8_count_121 : decode cX8_count 121 = .ok (.iconst 0, 1) := by decide +kernel
theorem dX8_count_122 : decode cX8_count 122 = .ok (.aload_n 0, 1) := by decide +kernel
theorem dX8_count_123 : decode cX8_count 123 = .ok (.iconst 1, 1) := by decide +kernel
theorem dX8_count_124 : decode cX8_count 124 = .ok (.invokevirtual 204, 3) := by decide +kernel
theorem dX8_count_127 : decode cX8_count 127 = .ok (.ifCond .eq 7, 3) := by decide +kernel
theorem dX8_count_130 : decode cX8_count 130 = .ok (.iconst 2, 1) := by decide +kernel
theorem dX8_count_131 : decode cX8_count 131 = .ok (.goto 4, 3) := by decide +kernel
theorem dX8_count_134 : decode cX8_count 134 = .ok (.iconst 0, 1) := by decide +kernel
theorem dX8_count_135 : decode cX8_count 135 = .ok (.iadd, 1) := by decide +kernel
theorem dX8_count_136 : decode cX8_count 136 = .ok (.ireturn, 1) := by decide +kernel
theorem dX8_count_137 : decode cX8_count 137 = .ok (.aload_n 0, 1) := by decide +kernel
theorem dX8_count_138 : decode cX8_count 138 = .ok (.aload_n 0, 1) := by decide +kernel
theorem dX8_count_139 : decode cX8_count 139 = .ok (.getfield 7, 3) := by decide +kernel
theorem dX8_count_142 : decode cX8_count 142 = .ok (.aload_n 0, 1) := by decide +kernel
theorem dX8_count_143 : decode cX8_count 143 = .ok (.getfield 7, 3) := by decide +kernel
theorem dX8_count_146 : decode cX8_count 146 = .ok (.iconst 0, 1) := by decide +kernel
theorem dX8_count_147 : decode cX8_count 147 = .ok (.iaload, 1) := by decide +kernel
theorem dX8_count_148 : decode cX8_count 148 = .ok (.invokevirtual 207, 3) := by decide +kernel
theorem dX8_count_151 : decode cX8_count 151 = .ok (.ireturn, 1) := by decide +kernel
theorem dX8_count_152 : decode cX8_count 152 = .ok (.aload_n 0, 1) := by decide +kernel
theorem dX8_count_153 : decode cX8_count 153 = .ok (.invokevirtual 211, 3) := by decide +kernel
theorem dX8_count_156 : decode cX8_count 156 = .ok (.ireturn, 1) := by decide +kernel
theorem dX8_count_157 : decode cX8_count 157 = .ok (.aload_n 0, 1) := by decide +kernel
theorem dX8_count_158 : decode cX8_count 158 = .ok (.getfield 72, 3) := by decide +kernel
theorem dX8_count_161 : decode cX8_count 161 = .ok (.ireturn, 1) := by decide +kernel
theorem dX8_count_162 : decode cX8_count 162 = .ok (.iconst (-1), 1) := by decide +kernel
theorem dX8_count_163 : decode cX8_count 163 = .ok (.ireturn, 1) := by decide +kernel
set_option maxRecDepth 20000 in
theorem ggX8_type_X8_in : GoodIn wsX8_type wsX8_in := goodIn_r _ [8] (by decide +kernel) (by decide +kernel)
set_option maxRecDepth 20000 in
theorem gX8_type_X8_in : GoodIn wsX8_type (va_wsS RX8 106 yX8_in wsX8_in) := goodIn_app (goodIn_of _ (by decide +kernel)) ggX8_type_X8_in
theorem dX8_type_0 : decode cX8_type 0 = .ok (.iload_n 1, 1) := by decide +kernel
theorem dX8_type_1 : decode cX8_type 1 = .ok (.i2l, 1) := by decide +kernel
theorem dX8_type_2 : decode cX8_type 2 = .ok (.ldc2_w 214, 3) := by decide +kernel
theorem dX8_type_5 : decode cX8_type 5 = .ok (.ldc2_w 216, 3) := by decide +kernel
theorem dX8_type_8 : decode cX8_type 8 = .ok (.invokestatic 106, 3) := by decide +kernel
theorem dX8_type_11 : decode cX8_type 11 = .ok (.ifCond .ne 5, 3) := by decide +kernel
theorem dX8_type_14 : decode cX8_type 14 = .ok (.iconst (-1), 1) := by decide +kernel
theorem dX8_type_15 : decode cX8_type 15 = .ok (.ireturn, 1) := by decide +kernel
theorem dX8_type_16 : decode cX8_type 16 = .ok (.aload_n 0, 1) := by decide +kernel
theorem dX8_type_17 : decode cX8_type 17 = .ok (.getfield 218, 3) := by decide +kernel
theorem dX8_type_20 : decode cX8_type 20 = .ok (.bipush 60, 2) := by decide +kernel
theorem dX8_type_22 : decode cX8_type 22 = .ok (.if_icmp .ne 6, 3) := by decide +kernel
theorem dX8_type_25 : decode cX8_type 25 = .ok (.bipush (-3), 2) := by decide +kernel
theorem dX8_type_27 : decode cX8_type 27 = .ok (.ireturn, 1) := by decide +kernel
theorem dX8_type_28 : decode cX8_type 28 = .ok (.aload_n 0, 1) := by decide +kernel
theorem dX8_type_29 : decode cX8_type 29 = .ok (.getfield 26, 3) := by decide +kernel
theorem dX8_type_32 : decode cX8_type 32 = .ok (.aload_n 0, 1) := by decide +kernel
theorem dX8_type_33 : decode cX8_type 33 = .ok (.getfield 218, 3) := by decide +kernel
theorem dX8_type_36 : decode cX8_type 36 = .ok (.iload_n 1, 1) := by decide +kernel
theorem dX8_type_37 : decode cX8_type 37 = .ok (.iastore, 1) := by decide +kernel
theorem dX8_type_38 : decode cX8_type 38 = .ok (.aload_n 0, 1) := by decide +kernel
theorem dX8_type_39 : decode cX8_type 39 = .ok (.dup, 1) := by decide +kernel
theorem dX8_type_40 : decode cX8_type 40 = .ok (.getfield 218, 3) := by decide +kernel
theorem dX8_type_43 : decode cX8_type 43 = .ok (.iconst 1, 1) := by decide +kernel
theorem dX8_type_44 : decode cX8_type 44 = .ok (.iadd, 1) := by decide +kernel
theorem dX8_type_45 : decode cX8_type 45 = .ok (.putfield 218, 3) := by decide +kernel
theorem dX8_type_48 : decode cX8_type 48 = .ok (.aload_n 0, 1) := by decide +kernel
theorem dX8_type_49 : decode cX8_type 49 = .ok (.getfield 218, 3) := by decide +kernel
theorem dX8_type_52 : decode cX8_type 52 = .ok (.ireturn, 1) := by decide +kernel
theorem dX8_looks_0 : decode cX8_looks 0 = .ok (.aload_n 0, 1) := by decide +kernel
theorem dX8_looks_1 : decode cX8_looks 1 = .ok (.getfield 221, 3) := by decide +kernel
theorem dX8_looks_4 : decode cX8_looks 4 = .ok (.aload_n 0, 1) := by decide +kernel
theorem dX8_looks_5 : decode cX8_looks 5 = .ok (.getfield 218, 3) := by decide +kernel
theorem dX8_looks_8 : decode cX8_looks 8 = .ok (.if_icmp .ge 30, 3) := by decide +kernel
theorem dX8_looks_11 : decode cX8_looks 11 = .ok (.aload_n 0, 1) := by decide +kernel
theorem dX8_looks_12 : decode cX8_looks 12 = .ok (.getfield 26, 3) := by decide +kernel
theorem dX8_looks_15 : decode cX8_looks 15 = .ok (.aload_n 0, 1) := by decide +kernel
theorem dX8_looks_16 : decode cX8_looks 16 = .ok (.getfield 221, 3) := by decide +kernel
theorem dX8_looks_19 : decode cX8_looks 19 = .ok (.iaload, 1) := by decide +kernel
theorem dX8_looks_20 : decode cX8_looks 20 = .ok (.bipush 32, 2) := by decide +kernel
theorem dX8_looks_22 : decode cX8_looks 22 = .ok (.if_icmp .ne 16, 3) := by decide +kernel
theorem dX8_looks_25 : decode cX8_looks 25 = .ok (.aload_n 0, 1) := by decide +kernel
theorem dX8_looks_26 : decode cX8_looks 26 = .ok (.dup, 1) := by decide +kernel
theorem dX8_looks_27 : decode cX8_looks 27 = .ok (.getfield 221, 3) := by decide +kernel
theorem dX8_looks_30 : decode cX8_looks 30 = .ok (.iconst 1, 1) := by decide +kernel
theorem dX8_looks_31 : decode cX8_looks 31 = .ok (.iadd, 1) := by decide +kernel
theorem dX8_looks_32 : decode cX8_looks 32 = .ok (.putfield 221, 3) := by decide +kernel
theorem dX8_looks_35 : decode cX8_looks 35 = .ok (.goto (-35), 3) := by decide +kernel
theorem dX8_looks_38 : decode cX8_looks 38 = .ok (.aload_n 0, 1) := by decide +kernel
theorem dX8_looks_39 : decode cX8_looks 39 = .ok (.getfield 221, 3) := by decide +kernel
theorem dX8_looks_42 : decode cX8_looks 42 = .ok (.aload_n 0, 1) := by decide +kernel
theorem dX8_looks_43 : decode cX8_looks 43 = .ok (.getfield 218, 3) := by decide +kernel
theorem dX8_looks_46 : decode cX8_looks 46 = .ok (.if_icmp .ge 15, 3) := by decide +kernel
theorem dX8_looks_49 : decode cX8_looks 49 = .ok (.aload_n 0, 1) := by decide +kernel
theorem dX8_looks_50 : decode cX8_looks 50 = .ok (.getfield 26, 3) := by decide +kernel
theorem dX8_looks_53 : decode cX8_looks 53 = .ok (.aload_n 0, 1) := by decide +kernel
theorem dX8_looks_54 : decode cX8_looks 54 = .ok (.getfield 221, 3) := by decide +kernel
theorem dX8_looks_57 : decode cX8_looks 57 = .ok (.iaload, 1) := by decide +kernel
theorem dX8_looks_58 : decode cX8_looks 58 = .ok (.goto 4, 3) := by decide +kernel
theorem dX8_looks_61 : decode cX8_looks 61 = .ok (.iconst 0, 1) := by decide +kernel
theorem dX8_looks_62 : decode cX8_looks 62 = .ok (.ireturn, 1) := by decide +kernel
theorem dX8_takes_0 : decode cX8_takes 0 = .ok (.aload_n 0, 1) := by decide +kernel
theorem dX8_takes_1 : decode cX8_takes 1 = .ok (.aload_n 0, 1) := by decide +kernel
theorem dX8_takes_2 : decode cX8_takes 2 = .ok (.getfield 224, 3) := by decide +kernel
theorem dX8_takes_5 : decode cX8_takes 5 = .ok (.ifCond .ne 7, 3) := by decide +kernel
theorem dX8_takes_8 : decode cX8_takes 8 = .ok (.iload_n 1, 1) := by decide +kernel
theorem dX8_takes_9 : decode cX8_takes 9 = .ok (.ifCond .ne 7, 3) := by decide +kernel
theorem dX8_takes_12 : decode cX8_takes 12 = .ok (.iconst 1, 1) := by decide +kernel
theorem dX8_takes_13 : decode cX8_takes 13 = .ok (.goto 4, 3) := by decide +kernel
theorem dX8_takes_16 : decode cX8_takes 16 = .ok (.iconst 0, 1) := by decide +kernel
theorem dX8_takes_17 : decode cX8_takes 17 = .ok (.putfield 224, 3) := by decide +kernel
theorem dX8_takes_20 : decode cX8_takes 20 = .ok (.aload_n 0, 1) := by decide +kernel
theorem dX8_takes_21 : decode cX8_takes 21 = .ok (.dup, 1) := by decide +kernel
theorem dX8_takes_22 : decode cX8_takes 22 = .ok (.getfield 221, 3) := by decide +kernel
theorem dX8_takes_25 : decode cX8_takes 25 = .ok (.aload_n 0, 1) := by decide +kernel
theorem dX8_takes_26 : decode cX8_takes 26 = .ok (.getfield 224, 3) := by decide +kernel
theorem dX8_takes_29 : decode cX8_takes 29 = .ok (.ifCond .eq 7, 3) := by decide +kernel
theorem dX8_takes_32 : decode cX8_takes 32 = .ok (.iconst 0, 1) := by decide +kernel
theorem dX8_takes_33 : decode cX8_takes 33 = .ok (.goto 4, 3) := by decide +kernel
theorem dX8_takes_36 : decode cX8_takes 36 = .ok (.iconst 1, 1) := by decide +kernel
theorem dX8_takes_37 : decode cX8_takes 37 = .ok (.iadd, 1) := by decide +kernel
theorem dX8_takes_38 : decode cX8_takes 38 = .ok (.putfield 221, 3) := by decide +kernel
theorem dX8_takes_41 : decode cX8_takes 41 = .ok (.return_, 1) := by decide +kernel
set_option maxRecDepth 20000 in
theorem ggX8_weights_X8_looks : GoodIn wsX8_weights wsX8_looks := goodIn_r _ [11, 3, 12, 13, 21, 22, 23, 24, 25, 26, 27, 28, 29, 30, 31, 32, 33, 34, 35, 36, 37, 38, 39, 40, 41, 42, 43, 44, 45, 46, 47, 48, 49, 50, 51, 52, 53] (by decide +kernel) (by decide +kernel)
set_option maxRecDepth 20000 in
theorem gX8_weights_X8_looks : GoodIn wsX8_weights (wsV RX8 230 RX8 yX8_looks wsX8_looks) := goodIn_app (goodIn_of _ (by decide +kernel)) ggX8_weights_X8_looks
set_option maxRecDepth 20000 in
theorem ggX8_weights_X8_in : GoodIn wsX8_weights wsX8_in := goodIn_r _ [16] (by decide +kernel) (by decide +kernel)
set_option maxRecDepth 20000 in
theorem gX8_weights_X8_in : GoodIn wsX8_weights (va_wsS RX8 106 yX8_in wsX8_in) := goodIn_app (goodIn_of _ (by decide +kernel)) ggX8_weights_X8_in
set_option maxRecDepth 20000 in
theorem ggX8_weights_X8_takes : GoodIn wsX8_weights wsX8_takes := goodIn_r _ [20, 2, 3, 21, 22, 23, 24, 25, 26, 27, 28, 29, 30, 31, 32, 33, 34, 35, 36, 37, 38, 39, 40, 41, 42, 43, 44, 45, 46, 47, 48, 49, 50, 51, 52, 53] (by decide +kernel) (by decide +kernel)
set_option maxRecDepth 20000 in
theorem gX8_weights_X8_takes : GoodIn wsX8_weights (wsV RX8 236 RX8 yX8_takes wsX8_takes) := goodIn_app (goodIn_of _ (by decide +kernel)) ggX8_weights_X8_takes
theorem dX8_weights_0 : decode cX8_weights 0 = .ok (.aload_n 0, 1) := by decide +kernel
theorem dX8_weights_1 : decode cX8_weights 1 = .ok (.iconst 0, 1) := by decide +kernel
theorem dX8_weights_2 : decode cX8_weights 2 = .ok (.putfield 227, 3) := by decide +kernel
theorem dX8_weights_5 : decode cX8_weights 5 = .ok (.iconst 0, 1) := by decide +kernel
theorem dX8_weights_6 : decode cX8_weights 6 = .ok (.istore_n 1, 1) := by decide +kernel
theorem dX8_weights_7 : decode cX8_weights 7 = .ok (.iconst 1, 1) := by decide +kernel
theorem dX8_weights_8 : decode cX8_weights 8 = .ok (.istore_n 2, 1) := by decide +kernel
theorem dX8_weights_9 : decode cX8_weights 9 = .ok (.iload_n 2, 1) := by decide +kernel
theorem dX8_weights_10 : decode cX8_weights 10 = .ok (.ifCond .eq 126, 3) := by decide +kernel
theorem dX8_weights_13 : decode cX8_weights 13 = .ok (.aload_n 0, 1) := by decide +kernel
theorem dX8_weights_14 : decode cX8_weights 14 = .ok (.getfield 224, 3) := by decide +kernel
theorem dX8_weights_17 : decode cX8_weights 17 = .ok (.ifCond .ne 119, 3) := by decide +kernel
theorem dX8_weights_20 : decode cX8_weights 20 = .ok (.aload_n 0, 1) := by decide +kernel
theorem dX8_weights_21 : decode cX8_weights 21 = .ok (.invokevirtual 230, 3) := by decide +kernel
theorem dX8_weights_24 : decode cX8_weights 24 = .ok (.bipush 48, 2) := by decide +kernel
theorem dX8_weights_26 : decode cX8_weights 26 = .ok (.isub, 1) := by decide +kernel
theorem dX8_weights_27 : decode cX8_weights 27 = .ok (.istore_n 3, 1) := by decide +kernel
theorem dX8_weights_28 : decode cX8_weights 28 = .ok (.aload_n 0, 1) := by decide +kernel
theorem dX8_weights_29 : decode cX8_weights 29 = .ok (.aload_n 0, 1) := by decide +kernel
theorem dX8_weights_30 : decode cX8_weights 30 = .ok (.getfield 221, 3) := by decide +kernel
theorem dX8_weights_33 : decode cX8_weights 33 = .ok (.putfield 233, 3) := by decide +kernel
theorem dX8_weights_36 : decode cX8_weights 36 = .ok (.aload_n 0, 1) := by decide +kernel
theorem dX8_weights_37 : decode cX8_weights 37 = .ok (.iload_n 3, 1) := by decide +kernel
theorem dX8_weights_38 : decode cX8_weights 38 = .ok (.i2l, 1) := by decide +kernel
theorem dX8_weights_39 : decode cX8_weights 39 = .ok (.lconst 0, 1) := by decide +kernel
theorem dX8_weights_40 : decode cX8_weights 40 = .ok (.ldc2_w 114, 3) := by decide +kernel
theorem dX8_weights_43 : decode cX8_weights 43 = .ok (.invokestatic 106, 3) := by decide +kernel
theorem dX8_weights_46 : decode cX8_weights 46 = .ok (.ifCond .eq 15, 3) := by decide +kernel
theorem dX8_weights_49 : decode cX8_weights 49 = .ok (.iload_n 1, 1) := by decide +kernel
theorem dX8_weights_50 : decode cX8_weights 50 = .ok (.iload_n 3, 1) := by decide +kernel
theorem dX8_weights_51 : decode cX8_weights 51 = .ok (.iadd, 1) := by decide +kernel
theorem dX8_weights_52 : decode cX8_weights 52 = .ok (.bipush 24, 2) := by decide +kernel
theorem dX8_weights_54 : decode cX8_weights 54 = .ok (.if_icmp .gt 7, 3) := by decide +kernel
theorem dX8_weights_57 : decode cX8_weights 57 = .ok (.iconst 1, 1) := by decide +kernel
theorem dX8_weights_58 : decode cX8_weights 58 = .ok (.goto 4, 3) := by decide +kernel
theorem dX8_weights_61 : decode cX8_weights 61 = .ok (.iconst 0, 1) := by decide +kernel
theorem dX8_weights_62 : decode cX8_weights 62 = .ok (.invokevirtual 236, 3) := by decide +kernel
theorem dX8_weights_65 : decode cX8_weights 65 = .ok (.iload_n 1, 1) := by decide +kernel
theorem dX8_weights_66 : decode cX8_weights 66 = .ok (.iload_n 3, 1) := by decide +kernel
theorem dX8_weights_67 : decode cX8_weights 67 = .ok (.iadd, 1) := by decide +kernel
theorem dX8_weights_68 : decode cX8_weights 68 = .ok (.istore_n 1, 1) := by decide +kernel
theorem dX8_weights_69 : decode cX8_weights 69 = .ok (.aload_n 0, 1) := by decide +kernel
theorem dX8_weights_70 : decode cX8_weights 70 = .ok (.getfield 224, 3) := by decide +kernel
theorem dX8_weights_73 : decode cX8_weights 73 = .ok (.ifCond .ne 60, 3) := by decide +kernel
theorem dX8_weights_76 : decode cX8_weights 76 = .ok (.aload_n 0, 1) := by decide +kernel
theorem dX8_weights_77 : decode cX8_weights 77 = .ok (.dup, 1) := by decide +kernel
theorem dX8_weights_78 : decode cX8_weights 78 = .ok (.getfield 227, 3) := by decide +kernel
theorem dX8_weights_81 : decode cX8_weights 81 = .ok (.iconst 1, 1) := by decide +kernel
theorem dX8_weights_82 : decode cX8_weights 82 = .ok (.iadd, 1) := by decide +kernel
theorem dX8_weights_83 : decode cX8_weights 83 = .ok (.putfield 227, 3) := by decide +kernel
theorem dX8_weights_86 : decode cX8_weights 86 = .ok (.aload_n 0, 1) := by decide +kernel
theorem dX8_weights_87 : decode cX8_weights 87 = .ok (.getfield 69, 3) := by decide +kernel
theorem dX8_weights_90 : decode cX8_weights 90 = .ok (.aload_n 0, 1) := by decide +kernel
theorem dX8_weights_91 : decode cX8_weights 91 = .ok (.getfield 227, 3) := by decide +kernel
theorem dX8_weights_94 : decode cX8_weights 94 = .ok (.iload_n 3, 1) := by decide +kernel
theorem dX8_weights_95 : decode cX8_weights 95 = .ok (.iastore, 1) := by decide +kernel
theorem dX8_weights_96 : decode cX8_weights 96 = .ok (.aload_n 0, 1) := by decide +kernel
theorem dX8_weights_97 : decode cX8_weights 97 = .ok (.invokevirtual 230, 3) := by decide +kernel
theorem dX8_weights_100 : decode cX8_weights 100 = .ok (.bipush 44, 2) := by decide +kernel
theorem dX8_weights_102 : decode cX8_weights 102 = .ok (.if_icmp .ne 7, 3) := by decide +kernel
theorem dX8_weights_105 : decode cX8_weights 105 = .ok (.iconst 1, 1) := by decide +kernel
theorem dX8_weights_106 : decode cX8_weights 106 = .ok (.goto 4, 3) := by decide +kernel
theorem dX8_weights_109 : decode cX8_weights 109 = .ok (.iconst 0, 1) := by decide +kernel
theorem dX8_weights_110 : decode cX8_weights 110 = .ok (.istore_n 2, 1) := by decide +kernel
theorem dX8_weights_111 : decode cX8_weights 111 = .ok (.iload_n 2, 1) := by decide +kernel
theorem dX8_weights_112 : decode cX8_weights 112 = .ok (.ifCond .eq 21, 3) := by decide +kernel
theorem dX8_weights_115 : decode cX8_weights 115 = .ok (.aload_n 0, 1) := by decide +kernel
theorem dX8_weights_116 : decode cX8_weights 116 = .ok (.aload_n 0, 1) := by decide +kernel
theorem dX8_weights_117 : decode cX8_weights 117 = .ok (.getfield 227, 3) := by decide +kernel
theorem dX8_weights_120 : decode cX8_weights 120 = .ok (.bipush 8, 2) := by decide +kernel
theorem dX8_weights_122 : decode cX8_weights 122 = .ok (.if_icmp .ge 7, 3) := by decide +kernel
theorem dX8_weights_125 : decode cX8_weights 125 = .ok (.iconst 1, 1) := by decide +kernel
theorem dX8_weights_126 : decode cX8_weights 126 = .ok (.goto 4, 3) := by decide +kernel
theorem dX8_weights_129 : decode cX8_weights 129 = .ok (.iconst 0, 1) := by decide +kernel
theorem dX8_weights_130 : decode cX8_weights 130 = .ok (.invokevirtual 236, 3) := by decide +kernel
theorem dX8_weights_133 : decode cX8_weights 133 = .ok (.goto (-124), 3) := by decide +kernel
theorem dX8_weights_136 : decode cX8_weights 136 = .ok (.return_, 1) := by decide +kernel
set_option maxRecDepth 20000 in
theorem ggX8_isFigure_X8_in : GoodIn wsX8_isFigure wsX8_in := goodIn_r _ [8] (by decide +kernel) (by decide +kernel)
set_option maxRecDepth 20000 in
theorem gX8_isFigure_X8_in : GoodIn wsX8_isFigure (va_wsS RX8 106 yX8_in wsX8_in) := goodIn_app (goodIn_of _ (by decide +kernel)) ggX8_isFigure_X8_in
theorem dX8_isFigure_0 : decode cX8_isFigure 0 = .ok (.iload_n 1, 1) := by decide +kernel
theorem dX8_isFigure_1 : decode cX8_isFigure 1 = .ok (.aload_n 0, 1) := by decide +kernel
theorem dX8_isFigure_2 : decode cX8_isFigure 2 = .ok (.getfield 218, 3) := by decide +kernel
theorem dX8_isFigure_5 : decode cX8_isFigure 5 = .ok (.if_icmp .ge 26, 3) := by decide +kernel
theorem dX8_isFigure_8 : decode cX8_isFigure 8 = .ok (.aload_n 0, 1) := by decide +kernel
theorem dX8_isFigure_9 : decode cX8_isFigure 9 = .ok (.getfield 26, 3) := by decide +kernel
theorem dX8_isFigure_12 : decode cX8_isFigure 12 = .ok (.iload_n 1, 1) := by decide +kernel
theorem dX8_isFigure_13 : decode cX8_isFigure 13 = .ok (.iaload, 1) := by decide +kernel
theorem dX8_isFigure_14 : decode cX8_isFigure 14 = .ok (.i2l, 1) := by decide +kernel
theorem dX8_isFigure_15 : decode cX8_isFigure 15 = .ok (.ldc2_w 240, 3) := by decide +kernel
theorem dX8_isFigure_18 : decode cX8_isFigure 18 = .ok (.ldc2_w 242, 3) := by decide +kernel
theorem dX8_isFigure_21 : decode cX8_isFigure 21 = .ok (.invokestatic 106, 3) := by decide +kernel
theorem dX8_isFigure_24 : decode cX8_isFigure 24 = .ok (.ifCond .eq 7, 3) := by decide +kernel
theorem dX8_isFigure_27 : decode cX8_isFigure 27 = .ok (.iconst 1, 1) := by decide +kernel
theorem dX8_isFigure_28 : decode cX8_isFigure 28 = .ok (.goto 4, 3) := by decide +kernel
theorem dX8_isFigure_31 : decode cX8_isFigure 31 = .ok (.iconst 0, 1) := by decide +kernel
theorem dX8_isFigure_32 : decode cX8_isFigure 32 = .ok (.ireturn, 1) := by decide +kernel
set_option maxRecDepth 20000 in
theorem ggX8_number_X8_looks : GoodIn wsX8_number wsX8_looks := goodIn_r _ [10, 4, 11, 5, 19, 20, 21, 22, 23, 24, 25, 26, 27, 28, 29, 30, 31, 32, 33, 34, 35, 36, 37, 38, 39, 40, 41, 42, 43, 44, 45, 46, 47, 48, 49, 50, 51] (by decide +kernel) (by decide +kernel)
set_option maxRecDepth 20000 in
theorem gX8_number_X8_looks : GoodIn wsX8_number (wsV RX8 230 RX8 yX8_looks wsX8_looks) := goodIn_app (goodIn_of _ (by decide +kernel)) ggX8_number_X8_looks
set_option maxRecDepth 20000 in
theorem ggX8_number_X8_in : GoodIn wsX8_number wsX8_in := goodIn_r _ [14] (by decide +kernel) (by decide +kernel)
set_option maxRecDepth 20000 in
theorem gX8_number_X8_in : GoodIn wsX8_number (va_wsS RX8 106 yX8_in wsX8_in) := goodIn_app (goodIn_of _ (by decide +kernel)) ggX8_number_X8_in
set_option maxRecDepth 20000 in
theorem ggX8_number_X8_isFigure : GoodIn wsX8_number wsX8_isFigure := goodIn_r _ [18, 11, 5, 2, 3, 12, 13, 9, 14, 19, 20, 21, 22, 23, 24, 25, 26, 27, 28, 29, 30, 31, 32, 33, 34, 35, 36, 37, 38, 39, 40, 41, 42, 43, 44, 45, 46, 47, 48, 49, 50, 51] (by decide +kernel) (by decide +kernel)
set_option maxRecDepth 20000 in
theorem gX8_number_X8_isFigure : GoodIn wsX8_number (wsV RX8 244 RX8 yX8_isFigure wsX8_isFigure) := goodIn_app (goodIn_of _ (by decide +kernel)) ggX8_number_X8_isFigure
theorem dX8_number_0 : decode cX8_number 0 = .ok (.aload_n 0, 1) := by decide +kernel
theorem dX8_number_1 : decode cX8_number 1 = .ok (.getfield 224, 3) := by decide +kernel
theorem dX8_number_4 : decode cX8_number 4 = .ok (.ifCond .eq 7, 3) := by decide +kernel
theorem dX8_number_7 : decode cX8_number 7 = .ok (.iconst 0, 1) := by decide +kernel
theorem dX8_number_8 : decode cX8_number 8 = .ok (.goto 7, 3) := by decide +kernel
theorem dX8_number_11 : decode cX8_number 11 = .ok (.aload_n 0, 1) := by decide +kernel
theorem dX8_number_12 : decode cX8_number 12 = .ok (.invokevirtual 230, 3) := by decide +kernel
theorem dX8_number_15 : decode cX8_number 15 = .ok (.istore_n 2, 1) := by decide +kernel
theorem dX8_number_16 : decode cX8_number 16 = .ok (.aload_n 0, 1) := by decide +kernel
theorem dX8_number_17 : decode cX8_number 17 = .ok (.getfield 224, 3) := by decide +kernel
theorem dX8_number_20 : decode cX8_number 20 = .ok (.ifCond .ne 17, 3) := by decide +kernel
theorem dX8_number_23 : decode cX8_number 23 = .ok (.iload_n 2, 1) := by decide +kernel
theorem dX8_number_24 : decode cX8_number 24 = .ok (.i2l, 1) := by decide +kernel
theorem dX8_number_25 : decode cX8_number 25 = .ok (.ldc2_w 240, 3) := by decide +kernel
theorem dX8_number_28 : decode cX8_number 28 = .ok (.ldc2_w 242, 3) := by decide +kernel
theorem dX8_number_31 : decode cX8_number 31 = .ok (.invokestatic 106, 3) := by decide +kernel
theorem dX8_number_34 : decode cX8_number 34 = .ok (.ifCond .ne 10, 3) := by decide +kernel
theorem dX8_number_37 : decode cX8_number 37 = .ok (.aload_n 0, 1) := by decide +kernel
theorem dX8_number_38 : decode cX8_number 38 = .ok (.iconst 1, 1) := by decide +kernel
theorem dX8_number_39 : decode cX8_number 39 = .ok (.putfield 224, 3) := by decide +kernel
theorem dX8_number_42 : decode cX8_number 42 = .ok (.iconst 0, 1) := by decide +kernel
theorem dX8_number_43 : decode cX8_number 43 = .ok (.ireturn, 1) := by decide +kernel
theorem dX8_number_44 : decode cX8_number 44 = .ok (.aload_n 0, 1) := by decide +kernel
theorem dX8_number_45 : decode cX8_number 45 = .ok (.aload_n 0, 1) := by decide +kernel
theorem dX8_number_46 : decode cX8_number 46 = .ok (.getfield 221, 3) := by decide +kernel
theorem dX8_number_49 : decode cX8_number 49 = .ok (.iconst 1, 1) := by decide +kernel
theorem dX8_number_50 : decode cX8_number 50 = .ok (.iadd, 1) := by decide +kernel
theorem dX8_number_51 : decode cX8_number 51 = .ok (.invokevirtual 244, 3) := by decide +kernel
theorem dX8_number_54 : decode cX8_number 54 = .ok (.ifCond .eq 7, 3) := by decide +kernel
theorem dX8_number_57 : decode cX8_number 57 = .ok (.iconst 2, 1) := by decide +kernel
theorem dX8_number_58 : decode cX8_number 58 = .ok (.goto 4, 3) := by decide +kernel
theorem dX8_number_61 : decode cX8_number 61 = .ok (.iconst 1, 1) := by decide +kernel
theorem dX8_number_62 : decode cX8_number 62 = .ok (.istore_n 3, 1) := by decide +kernel
theorem dX8_number_63 : decode cX8_number 63 = .ok (.iload_n 3, 1) := by decide +kernel
theorem dX8_number_64 : decode cX8_number 64 = .ok (.iconst 1, 1) := by decide +kernel
theorem dX8_number_65 : decode cX8_number 65 = .ok (.if_icmp .ne 10, 3) := by decide +kernel
theorem dX8_number_68 : decode cX8_number 68 = .ok (.iload_n 2, 1) := by decide +kernel
theorem dX8_number_69 : decode cX8_number 69 = .ok (.bipush 48, 2) := by decide +kernel
theorem dX8_number_71 : decode cX8_number 71 = .ok (.isub, 1) := by decide +kernel
theorem dX8_number_72 : decode cX8_number 72 = .ok (.goto 25, 3) := by decide +kernel
theorem dX8_number_75 : decode cX8_number 75 = .ok (.bipush 10, 2) := by decide +kernel
theorem dX8_number_77 : decode cX8_number 77 = .ok (.iload_n 2, 1) := by decide +kernel
theorem dX8_number_78 : decode cX8_number 78 = .ok (.bipush 48, 2) := by decide +kernel
theorem dX8_number_80 : decode cX8_number 80 = .ok (.isub, 1) := by decide +kernel
theorem dX8_number_81 : decode cX8_number 81 = .ok (.imul, 1) := by decide +kernel
theorem dX8_number_82 : decode cX8_number 82 = .ok (.aload_n 0, 1) := by decide +kernel
theorem dX8_number_83 : decode cX8_number 83 = .ok (.getfield 26, 3) := by decide +kernel
theorem dX8_number_86 : decode cX8_number 86 = .ok (.aload_n 0, 1) := by decide +kernel
theorem dX8_number_87 : decode cX8_number 87 = .ok (.getfield 221, 3) := by decide +kernel
theorem dX8_number_90 : decode cX8_number 90 = .ok (.iconst 1, 1) := by decide +kernel
theorem dX8_number_91 : decode cX8_number 91 = .ok (.iadd, 1) := by decide +kernel
theorem dX8_number_92 : decode cX8_number 92 = .ok (.iaload, 1) := by decide +kernel
theorem dX8_number_93 : decode cX8_number 93 = .ok (.iadd, 1) := by decide +kernel
theorem dX8_number_94 : decode cX8_number 94 = .ok (.bipush 48, 2) := by decide +kernel
theorem dX8_number_96 : decode cX8_number 96 = .ok (.isub, 1) := by decide +kernel
theorem dX8_number_97 : decode cX8_number 97 = .ok (.istore 4, 2) := by decide +kernel
theorem dX8_number_99 : decode cX8_number 99 = .ok (.iload_n 3, 1) := by decide +kernel
theorem dX8_number_100 : decode cX8_number 100 = .ok (.iconst 2, 1) := by decide +kernel
theorem dX8_number_101 : decode cX8_number 101 = .ok (.if_icmp .ne 34, 3) := by decide +kernel
theorem dX8_number_104 : decode cX8_number 104 = .ok (.aload_n 0, 1) := by decide +kernel
theorem dX8_number_105 : decode cX8_number 105 = .ok (.aload_n 0, 1) := by decide +kernel
theorem dX8_number_106 : decode cX8_number 106 = .ok (.getfield 221, 3) := by decide +kernel
theorem dX8_number_109 : decode cX8_number 109 = .ok (.iconst 2, 1) := by decide +kernel
theorem dX8_number_110 : decode cX8_number 110 = .ok (.iadd, 1) := by decide +kernel
theorem dX8_number_111 : decode cX8_number 111 = .ok (.invokevirtual 244, 3) := by decide +kernel
theorem dX8_number_114 : decode cX8_number 114 = .ok (.ifCond .eq 21, 3) := by decide +kernel
theorem dX8_number_117 : decode cX8_number 117 = .ok (.aload_n 0, 1) := by decide +kernel
theorem dX8_number_118 : decode cX8_number 118 = .ok (.dup, 1) := by decide +kernel
theorem dX8_number_119 : decode cX8_number 119 = .ok (.getfield 221, 3) := by decide +kernel
theorem dX8_number_122 : decode cX8_number 122 = .ok (.iconst 2, 1) := by decide +kernel
theorem dX8_number_123 : decode cX8_number 123 = .ok (.iadd, 1) := by decide +kernel
theorem dX8_number_124 : decode cX8_number 124 = .ok (.putfield 221, 3) := by decide +kernel
theorem dX8_number_127 : decode cX8_number 127 = .ok (.aload_n 0, 1) := by decide +kernel
theorem dX8_number_128 : decode cX8_number 128 = .ok (.iconst 1, 1) := by decide +kernel
theorem dX8_number_129 : decode cX8_number 129 = .ok (.putfield 224, 3) := by decide +kernel
theorem dX8_number_132 : decode cX8_number 132 = .ok (.goto 39, 3) := by decide +kernel
theorem dX8_number_135 : decode cX8_number 135 = .ok (.iload 4, 2) := by decide +kernel
theorem dX8_number_137 : decode cX8_number 137 = .ok (.iload_n 1, 1) := by decide +kernel
theorem dX8_number_138 : decode cX8_number 138 = .ok (.if_icmp .ge 23, 3) := by decide +kernel
theorem dX8_number_141 : decode cX8_number 141 = .ok (.aload_n 0, 1) := by decide +kernel
theorem dX8_number_142 : decode cX8_number 142 = .ok (.dup, 1) := by decide +kernel
theorem dX8_number_143 : decode cX8_number 143 = .ok (.getfield 221, 3) := by decide +kernel
theorem dX8_number_146 : decode cX8_number 146 = .ok (.iload_n 3, 1) := by decide +kernel
theorem dX8_number_147 : decode cX8_number 147 = .ok (.iconst 1, 1) := by decide +kernel
theorem dX8_number_148 : decode cX8_number 148 = .ok (.isub, 1) := by decide +kernel
theorem dX8_number_149 : decode cX8_number 149 = .ok (.iadd, 1) := by decide +kernel
theorem dX8_number_150 : decode cX8_number 150 = .ok (.putfield 221, 3) := by decide +kernel
theorem dX8_number_153 : decode cX8_number 153 = .ok (.aload_n 0, 1) := by decide +kernel
theorem dX8_number_154 : decode cX8_number 154 = .ok (.iconst 1, 1) := by decide +kernel
theorem dX8_number_155 : decode cX8_number 155 = .ok (.putfield 224, 3) := by decide +kernel
theorem dX8_number_158 : decode cX8_number 158 = .ok (.goto 13, 3) := by decide +kernel
theorem dX8_number_161 : decode cX8_number 161 = .ok (.aload_n 0, 1) := by decide +kernel
theorem dX8_number_162 : decode cX8_number 162 = .ok (.dup, 1) := by decide +kernel
theorem dX8_number_163 : decode cX8_number 163 = .ok (.getfield 221, 3) := by decide +kernel
theorem dX8_number_166 : decode cX8_number 166 = .ok (.iload_n 3, 1) := by decide +kernel
theorem dX8_number_167 : decode cX8_number 167 = .ok (.iadd, 1) := by decide +kernel
theorem dX8_number_168 : decode cX8_number 168 = .ok (.putfield 221, 3) := by decide +kernel
theorem dX8_number_171 : decode cX8_number 171 = .ok (.iload 4, 2) := by decide +kernel
theorem dX8_number_173 : decode cX8_number 173 = .ok (.ireturn, 1) := by decide +kernel
set_option maxRecDepth 20000 in
theorem ggX8_readsAll_X8_weights : GoodIn wsX8_readsAll wsX8_weights := goodIn_r _ [13, 7, 2, 1, 8, 14, 6, 15, 16, 17, 12, 18, 19, 20, 21, 22, 23, 24, 25, 26, 27, 38, 39, 40, 41, 42, 43, 44, 45, 46, 47, 48, 49, 50, 51, 52, 53, 54, 55, 56, 57, 58, 59, 60, 61, 62, 63, 64, 65, 66, 67, 68, 69, 70] (by decide +kernel) (by decide +kernel)
set_option maxRecDepth 20000 in
theorem gX8_readsAll_X8_weights : GoodIn wsX8_readsAll (wsV RX8 247 RX8 yX8_weights wsX8_weights) := goodIn_app (goodIn_of _ (by decide +kernel)) ggX8_readsAll_X8_weights
set_option maxRecDepth 20000 in
theorem ggX8_readsAll_X8_looks : GoodIn wsX8_readsAll wsX8_looks := goodIn_r _ [18, 1, 19, 20, 38, 39, 40, 41, 42, 43, 44, 45, 46, 47, 48, 49, 50, 51, 52, 53, 54, 55, 56, 57, 58, 59, 60, 61, 62, 63, 64, 65, 66, 67, 68, 69, 70] (by decide +kernel) (by decide +kernel)
set_option maxRecDepth 20000 in
theorem gX8_readsAll_X8_looks : GoodIn wsX8_readsAll (wsV RX8 230 RX8 yX8_looks wsX8_looks) := goodIn_app (goodIn_of _ (by decide +kernel)) ggX8_readsAll_X8_looks
set_option maxRecDepth 20000 in
theorem ggX8_readsAll_X8_number : GoodIn wsX8_readsAll wsX8_number := goodIn_r _ [31, 2, 32, 33, 1, 20, 15, 16, 17, 12, 18, 19, 21, 22, 23, 34, 35, 36, 37, 38, 39, 40, 41, 42, 43, 44, 45, 46, 47, 48, 49, 50, 51, 52, 53, 54, 55, 56, 57, 58, 59, 60, 61, 62, 63, 64, 65, 66, 67, 68, 69, 70] (by decide +kernel) (by decide +kernel)
set_option maxRecDepth 20000 in
theorem gX8_readsAll_X8_number : GoodIn wsX8_readsAll (wsV RX8 256 RX8 yX8_number wsX8_number) := goodIn_app (goodIn_of _ (by decide +kernel)) ggX8_readsAll_X8_number
set_option maxRecDepth 20000 in
theorem ggX8_readsAll_X8_takes : GoodIn wsX8_readsAll wsX8_takes := goodIn_r _ [27, 2, 1, 38, 39, 40, 41, 42, 43, 44, 45, 46, 47, 48, 49, 50, 51, 52, 53, 54, 55, 56, 57, 58, 59, 60, 61, 62, 63, 64, 65, 66, 67, 68, 69, 70] (by decide +kernel) (by decide +kernel)
set_option maxRecDepth 20000 in
theorem gX8_readsAll_X8_takes : GoodIn wsX8_readsAll (wsV RX8 236 RX8 yX8_takes wsX8_takes) := goodIn_app (goodIn_of _ (by decide +kernel)) ggX8_readsAll_X8_takes
theorem dX8_readsAll_0 : decode cX8_readsAll 0 = .ok (.aload_n 0, 1) := by decide +kernel
theorem dX8_readsAll_1 : decode cX8_readsAll 1 = .ok (.iconst 0, 1) := by decide +kernel
theorem dX8_readsAll_2 : decode cX8_readsAll 2 = .ok (.putfield 221, 3) := by decide +kernel
theorem dX8_readsAll_5 : decode cX8_readsAll 5 = .ok (.aload_n 0, 1) := by decide +kernel
theorem dX8_readsAll_6 : decode cX8_readsAll 6 = .ok (.iconst 0, 1) := by decide +kernel
theorem dX8_readsAll_7 : decode cX8_readsAll 7 = .ok (.putfield 224, 3) := by decide +kernel
theorem dX8_readsAll_10 : decode cX8_readsAll 10 = .ok (.aload_n 0, 1) := by decide +kernel
theorem dX8_readsAll_11 : decode cX8_readsAll 11 = .ok (.invokevirtual 247, 3) := by decide +kernel
theorem dX8_readsAll_14 : decode cX8_readsAll 14 = .ok (.aload_n 0, 1) := by decide +kernel
theorem dX8_readsAll_15 : decode cX8_readsAll 15 = .ok (.aload_n 0, 1) := by decide +kernel
theorem dX8_readsAll_16 : decode cX8_readsAll 16 = .ok (.getfield 7, 3) := by decide +kernel
theorem dX8_readsAll_19 : decode cX8_readsAll 19 = .ok (.bipush 9, 2) := by decide +kernel
theorem dX8_readsAll_21 : decode cX8_readsAll 21 = .ok (.iaload, 1) := by decide +kernel
theorem dX8_readsAll_22 : decode cX8_readsAll 22 = .ok (.putfield 250, 3) := by decide +kernel
theorem dX8_readsAll_25 : decode cX8_readsAll 25 = .ok (.aload_n 0, 1) := by decide +kernel
theorem dX8_readsAll_26 : decode cX8_readsAll 26 = .ok (.aload_n 0, 1) := by decide +kernel
theorem dX8_readsAll_27 : decode cX8_readsAll 27 = .ok (.getfield 7, 3) := by decide +kernel
theorem dX8_readsAll_30 : decode cX8_readsAll 30 = .ok (.bipush 10, 2) := by decide +kernel
theorem dX8_readsAll_32 : decode cX8_readsAll 32 = .ok (.iaload, 1) := by decide +kernel
theorem dX8_readsAll_33 : decode cX8_readsAll 33 = .ok (.putfield 253, 3) := by decide +kernel
theorem dX8_readsAll_36 : decode cX8_readsAll 36 = .ok (.aload_n 0, 1) := by decide +kernel
theorem dX8_readsAll_37 : decode cX8_readsAll 37 = .ok (.getfield 224, 3) := by decide +kernel
theorem dX8_readsAll_40 : decode cX8_readsAll 40 = .ok (.ifCond .ne 65, 3) := by decide +kernel
theorem dX8_readsAll_43 : decode cX8_readsAll 43 = .ok (.aload_n 0, 1) := by decide +kernel
theorem dX8_readsAll_44 : decode cX8_readsAll 44 = .ok (.invokevirtual 230, 3) := by decide +kernel
theorem dX8_readsAll_47 : decode cX8_readsAll 47 = .ok (.bipush 59, 2) := by decide +kernel
theorem dX8_readsAll_49 : decode cX8_readsAll 49 = .ok (.if_icmp .ne 56, 3) := by decide +kernel
theorem dX8_readsAll_52 : decode cX8_readsAll 52 = .ok (.aload_n 0, 1) := by decide +kernel
theorem dX8_readsAll_53 : decode cX8_readsAll 53 = .ok (.dup, 1) := by decide +kernel
theorem dX8_readsAll_54 : decode cX8_readsAll 54 = .ok (.getfield 221, 3) := by decide +kernel
theorem dX8_readsAll_57 : decode cX8_readsAll 57 = .ok (.iconst 1, 1) := by decide +kernel
theorem dX8_readsAll_58 : decode cX8_readsAll 58 = .ok (.iadd, 1) := by decide +kernel
theorem dX8_readsAll_59 : decode cX8_readsAll 59 = .ok (.putfield 221, 3) := by decide +kernel
theorem dX8_readsAll_62 : decode cX8_readsAll 62 = .ok (.aload_n 0, 1) := by decide +kernel
theorem dX8_readsAll_63 : decode cX8_readsAll 63 = .ok (.aload_n 0, 1) := by decide +kernel
theorem dX8_readsAll_64 : decode cX8_readsAll 64 = .ok (.iconst 1, 1) := by decide +kernel
theorem dX8_readsAll_65 : decode cX8_readsAll 65 = .ok (.invokevirtual 256, 3) := by decide +kernel
theorem dX8_readsAll_68 : decode cX8_readsAll 68 = .ok (.putfield 250, 3) := by decide +kernel
theorem dX8_readsAll_71 : decode cX8_readsAll 71 = .ok (.aload_n 0, 1) := by decide +kernel
theorem dX8_readsAll_72 : decode cX8_readsAll 72 = .ok (.aload_n 0, 1) := by decide +kernel
theorem dX8_readsAll_73 : decode cX8_readsAll 73 = .ok (.getfield 224, 3) := by decide +kernel
theorem dX8_readsAll_76 : decode cX8_readsAll 76 = .ok (.ifCond .ne 16, 3) := by decide +kernel
theorem dX8_readsAll_79 : decode cX8_readsAll 79 = .ok (.aload_n 0, 1) := by decide +kernel
theorem dX8_readsAll_80 : decode cX8_readsAll 80 = .ok (.invokevirtual 230, 3) := by decide +kernel
theorem dX8_readsAll_83 : decode cX8_readsAll 83 = .ok (.bipush 44, 2) := by decide +kernel
theorem dX8_readsAll_85 : decode cX8_readsAll 85 = .ok (.if_icmp .ne 7, 3) := by decide +kernel
theorem dX8_readsAll_88 : decode cX8_readsAll 88 = .ok (.iconst 1, 1) := by decide +kernel
theorem dX8_readsAll_89 : decode cX8_readsAll 89 = .ok (.goto 4, 3) := by decide +kernel
theorem dX8_readsAll_92 : decode cX8_readsAll 92 = .ok (.iconst 0, 1) := by decide +kernel
theorem dX8_readsAll_93 : decode cX8_readsAll 93 = .ok (.invokevirtual 236, 3) := by decide +kernel
theorem dX8_readsAll_96 : decode cX8_readsAll 96 = .ok (.aload_n 0, 1) := by decide +kernel
theorem dX8_readsAll_97 : decode cX8_readsAll 97 = .ok (.aload_n 0, 1) := by decide +kernel
theorem dX8_readsAll_98 : decode cX8_readsAll 98 = .ok (.iconst 0, 1) := by decide +kernel
theorem dX8_readsAll_99 : decode cX8_readsAll 99 = .ok (.invokevirtual 256, 3) := by decide +kernel
theorem dX8_readsAll_102 : decode cX8_readsAll 102 = .ok (.putfield 253, 3) := by decide +kernel
theorem dX8_readsAll_105 : decode cX8_readsAll 105 = .ok (.aload_n 0, 1) := by decide +kernel
theorem dX8_readsAll_106 : decode cX8_readsAll 106 = .ok (.aload_n 0, 1) := by decide +kernel
theorem dX8_readsAll_107 : decode cX8_readsAll 107 = .ok (.getfield 224, 3) := by decide +kernel
theorem dX8_readsAll_110 : decode cX8_readsAll 110 = .ok (.ifCond .ne 10, 3) := by decide +kernel
theorem dX8_readsAll_113 : decode cX8_readsAll 113 = .ok (.aload_n 0, 1) := by decide +kernel
theorem dX8_readsAll_114 : decode cX8_readsAll 114 = .ok (.invokevirtual 230, 3) := by decide +kernel
theorem dX8_readsAll_117 : decode cX8_readsAll 117 = .ok (.ifCond .eq 7, 3) := by decide +kernel
theorem dX8_readsAll_120 : decode cX8_readsAll 120 = .ok (.iconst 1, 1) := by decide +kernel
theorem dX8_readsAll_121 : decode cX8_readsAll 121 = .ok (.goto 4, 3) := by decide +kernel
theorem dX8_readsAll_124 : decode cX8_readsAll 124 = .ok (.iconst 0, 1) := by decide +kernel
theorem dX8_readsAll_125 : decode cX8_readsAll 125 = .ok (.putfield 224, 3) := by decide +kernel
theorem dX8_readsAll_128 : decode cX8_readsAll 128 = .ok (.aload_n 0, 1) := by decide +kernel
theorem dX8_readsAll_129 : decode cX8_readsAll 129 = .ok (.getfield 224, 3) := by decide +kernel
theorem dX8_readsAll_132 : decode cX8_readsAll 132 = .ok (.ifCond .ne 28, 3) := by decide +kernel
theorem dX8_readsAll_135 : decode cX8_readsAll 135 = .ok (.aload_n 0, 1) := by decide +kernel
theorem dX8_readsAll_136 : decode cX8_readsAll 136 = .ok (.getfield 69, 3) := by decide +kernel
theorem dX8_readsAll_139 : decode cX8_readsAll 139 = .ok (.aload_n 0, 1) := by decide +kernel
theorem dX8_readsAll_140 : decode cX8_readsAll 140 = .ok (.getfield 227, 3) := by decide +kernel
theorem dX8_readsAll_143 : decode cX8_readsAll 143 = .ok (.iaload, 1) := by decide +kernel
theorem dX8_readsAll_144 : decode cX8_readsAll 144 = .ok (.ifCond .ne 16, 3) := by decide +kernel
theorem dX8_readsAll_147 : decode cX8_readsAll 147 = .ok (.aload_n 0, 1) := by decide +kernel
theorem dX8_readsAll_148 : decode cX8_readsAll 148 = .ok (.iconst 1, 1) := by decide +kernel
theorem dX8_readsAll_149 : decode cX8_readsAll 149 = .ok (.putfield 224, 3) := by decide +kernel
theorem dX8_readsAll_152 : decode cX8_readsAll 152 = .ok (.aload_n 0, 1) := by decide +kernel
theorem dX8_readsAll_153 : decode cX8_readsAll 153 = .ok (.aload_n 0, 1) := by decide +kernel
theorem dX8_readsAll_154 : decode cX8_readsAll 154 = .ok (.getfield 233, 3) := by decide +kernel
theorem dX8_readsAll_157 : decode cX8_readsAll 157 = .ok (.putfield 221, 3) := by decide +kernel
theorem dX8_readsAll_160 : decode cX8_readsAll 160 = .ok (.return_, 1) := by decide +kernel
set_option maxRecDepth 20000 in
theorem ggX8_read_X8_readsAll : GoodIn wsX8_read wsX8_readsAll := goodIn_r _ [13, 1, 3, 4, 7, 8, 6, 5, 14, 15, 16, 17, 12, 18, 19, 20, 21, 22, 23, 2, 24, 25, 26, 27, 28, 29, 30, 31, 32, 33, 34, 35, 36, 37, 38, 39, 40, 41, 55, 56, 57, 58, 59, 60, 61, 62, 63, 64, 65, 66, 67, 68, 69, 70, 71, 72, 73, 74, 75, 76, 77, 78, 79, 80, 81, 82, 83, 84, 85, 86, 87] (by decide +kernel) (by decide +kernel)
set_option maxRecDepth 20000 in
theorem gX8_read_X8_readsAll : GoodIn wsX8_read (wsV RX8 259 RX8 yX8_readsAll wsX8_readsAll) := goodIn_app (goodIn_of _ (by decide +kernel)) ggX8_read_X8_readsAll
set_option maxRecDepth 20000 in
theorem ggX8_read_X8_looks : GoodIn wsX8_read wsX8_looks := goodIn_r _ [23, 1, 2, 24, 55, 56, 57, 58, 59, 60, 61, 62, 63, 64, 65, 66, 67, 68, 69, 70, 71, 72, 73, 74, 75, 76, 77, 78, 79, 80, 81, 82, 83, 84, 85, 86, 87] (by decide +kernel) (by decide +kernel)
set_option maxRecDepth 20000 in
theorem gX8_read_X8_looks : GoodIn wsX8_read (wsV RX8 230 RX8 yX8_looks wsX8_looks) := goodIn_app (goodIn_of _ (by decide +kernel)) ggX8_read_X8_looks
set_option maxRecDepth 20000 in
theorem ggX8_read_X8_notes : GoodIn wsX8_read wsX8_notes := goodIn_r _ [45, 46, 47, 4, 48, 49, 12, 50, 55, 56, 57, 58, 59, 60, 61, 62, 63, 64, 65, 66, 67, 68, 69, 70, 71, 72, 73, 74, 75, 76, 77, 78, 79, 80, 81, 82, 83, 84, 85, 86, 87] (by decide +kernel) (by decide +kernel)
set_option maxRecDepth 20000 in
theorem gX8_read_X8_notes : GoodIn wsX8_read (wsV RX8 120 RX8 yX8_notes wsX8_notes) := goodIn_app (goodIn_of _ (by decide +kernel)) ggX8_read_X8_notes
set_option maxRecDepth 20000 in
theorem ggX8_read_X8_begins : GoodIn wsX8_read wsX8_begins := goodIn_r _ [54, 4, 55, 56, 57, 58, 59, 60, 61, 62, 63, 64, 65, 66, 67, 68, 69, 70, 71, 72, 73, 74, 75, 76, 77, 78, 79, 80, 81, 82, 83, 84, 85, 86, 87] (by decide +kernel) (by decide +kernel)
set_option maxRecDepth 20000 in
theorem gX8_read_X8_begins : GoodIn wsX8_read (wsV RX8 123 RX8 yX8_begins wsX8_begins) := goodIn_app (goodIn_of _ (by decide +kernel)) ggX8_read_X8_begins
theorem dX8_read_0 : decode cX8_read 0 = .ok (.aload_n 0, 1) := by decide +kernel
theorem dX8_read_1 : decode cX8_read 1 = .ok (.invokevirtual 259, 3) := by decide +kernel
theorem dX8_read_4 : decode cX8_read 4 = .ok (.aload_n 0, 1) := by decide +kernel
theorem dX8_read_5 : decode cX8_read 5 = .ok (.invokevirtual 230, 3) := by decide +kernel
theorem dX8_read_8 : decode cX8_read 8 = .ok (.pop, 1) := by decide +kernel
theorem dX8_read_9 : decode cX8_read 9 = .ok (.aload_n 0, 1) := by decide +kernel
theorem dX8_read_10 : decode cX8_read 10 = .ok (.getfield 221, 3) := by decide +kernel
theorem dX8_read_13 : decode cX8_read 13 = .ok (.istore_n 1, 1) := by decide +kernel
theorem dX8_read_14 : decode cX8_read 14 = .ok (.aload_n 0, 1) := by decide +kernel
theorem dX8_read_15 : decode cX8_read 15 = .ok (.iconst 0, 1) := by decide +kernel
theorem dX8_read_16 : decode cX8_read 16 = .ok (.putfield 218, 3) := by decide +kernel
theorem dX8_read_19 : decode cX8_read 19 = .ok (.aload_n 0, 1) := by decide +kernel
theorem dX8_read_20 : decode cX8_read 20 = .ok (.getfield 224, 3) := by decide +kernel
theorem dX8_read_23 : decode cX8_read 23 = .ok (.ifCond .eq 8, 3) := by decide +kernel
theorem dX8_read_26 : decode cX8_read 26 = .ok (.bipush (-20), 2) := by decide +kernel
theorem dX8_read_28 : decode cX8_read 28 = .ok (.iload_n 1, 1) := by decide +kernel
theorem dX8_read_29 : decode cX8_read 29 = .ok (.isub, 1) := by decide +kernel
theorem dX8_read_30 : decode cX8_read 30 = .ok (.ireturn, 1) := by decide +kernel
theorem dX8_read_31 : decode cX8_read 31 = .ok (.aload_n 0, 1) := by decide +kernel
theorem dX8_read_32 : decode cX8_read 32 = .ok (.invokevirtual 120, 3) := by decide +kernel
theorem dX8_read_35 : decode cX8_read 35 = .ok (.iconst 1, 1) := by decide +kernel
theorem dX8_read_36 : decode cX8_read 36 = .ok (.istore_n 2, 1) := by decide +kernel
theorem dX8_read_37 : decode cX8_read 37 = .ok (.iload_n 2, 1) := by decide +kernel
theorem dX8_read_38 : decode cX8_read 38 = .ok (.bipush 8, 2) := by decide +kernel
theorem dX8_read_40 : decode cX8_read 40 = .ok (.if_icmp .gt 33, 3) := by decide +kernel
theorem dX8_read_43 : decode cX8_read 43 = .ok (.aload_n 0, 1) := by decide +kernel
theorem dX8_read_44 : decode cX8_read 44 = .ok (.getfield 7, 3) := by decide +kernel
theorem dX8_read_47 : decode cX8_read 47 = .ok (.iload_n 2, 1) := by decide +kernel
theorem dX8_read_48 : decode cX8_read 48 = .ok (.iload_n 2, 1) := by decide +kernel
theorem dX8_read_49 : decode cX8_read 49 = .ok (.aload_n 0, 1) := by decide +kernel
theorem dX8_read_50 : decode cX8_read 50 = .ok (.getfield 227, 3) := by decide +kernel
theorem dX8_read_53 : decode cX8_read 53 = .ok (.if_icmp .gt 12, 3) := by decide +kernel
theorem dX8_read_56 : decode cX8_read 56 = .ok (.aload_n 0, 1) := by decide +kernel
theorem dX8_read_57 : decode cX8_read 57 = .ok (.getfield 69, 3) := by decide +kernel
theorem dX8_read_60 : decode cX8_read 60 = .ok (.iload_n 2, 1) := by decide +kernel
theorem dX8_read_61 : decode cX8_read 61 = .ok (.iaload, 1) := by decide +kernel
theorem dX8_read_62 : decode cX8_read 62 = .ok (.goto 4, 3) := by decide +kernel
theorem dX8_read_65 : decode cX8_read 65 = .ok (.iconst 0, 1) := by decide +kernel
theorem dX8_read_66 : decode cX8_read 66 = .ok (.iastore, 1) := by decide +kernel
theorem dX8_read_67 : decode cX8_read 67 = .ok (.iinc 2 1, 3) := by decide +kernel
theorem dX8_read_70 : decode cX8_read 70 = .ok (.goto (-33), 3) := by decide +kernel
theorem dX8_read_73 : decode cX8_read 73 = .ok (.aload_n 0, 1) := by decide +kernel
theorem dX8_read_74 : decode cX8_read 74 = .ok (.getfield 7, 3) := by decide +kernel
theorem dX8_read_77 : decode cX8_read 77 = .ok (.iconst 0, 1) := by decide +kernel
theorem dX8_read_78 : decode cX8_read 78 = .ok (.aload_n 0, 1) := by decide +kernel
theorem dX8_read_79 : decode cX8_read 79 = .ok (.getfield 227, 3) := by decide +kernel
theorem dX8_read_82 : decode cX8_read 82 = .ok (.iastore, 1) := by decide +kernel
theorem dX8_read_83 : decode cX8_read 83 = .ok (.aload_n 0, 1) := by decide +kernel
theorem dX8_read_84 : decode cX8_read 84 = .ok (.getfield 7, 3) := by decide +kernel
theorem dX8_read_87 : decode cX8_read 87 = .ok (.bipush 9, 2) := by decide +kernel
theorem dX8_read_89 : decode cX8_read 89 = .ok (.aload_n 0, 1) := by decide +kernel
theorem dX8_read_90 : decode cX8_read 90 = .ok (.getfield 250, 3) := by decide +kernel
theorem dX8_read_93 : decode cX8_read 93 = .ok (.iastore, 1) := by decide +kernel
theorem dX8_read_94 : decode cX8_read 94 = .ok (.aload_n 0, 1) := by decide +kernel
theorem dX8_read_95 : decode cX8_read 95 = .ok (.getfield 7, 3) := by decide +kernel
theorem dX8_read_98 : decode cX8_read 98 = .ok (.bipush 10, 2) := by decide +kernel
theorem dX8_read_100 : decode cX8_read 100 = .ok (.aload_n 0, 1) := by decide +kernel
theorem dX8_read_101 : decode cX8_read 101 = .ok (.getfield 253, 3) := by decide +kernel
theorem dX8_read_104 : decode cX8_read 104 = .ok (.iastore, 1) := by decide +kernel
theorem dX8_read_105 : decode cX8_read 105 = .ok (.aload_n 0, 1) := by decide +kernel
theorem dX8_read_106 : decode cX8_read 106 = .ok (.invokevirtual 123, 3) := by decide +kernel
theorem dX8_read_109 : decode cX8_read 109 = .ok (.aload_n 0, 1) := by decide +kernel
theorem dX8_read_110 : decode cX8_read 110 = .ok (.getfield 227, 3) := by decide +kernel
theorem dX8_read_113 : decode cX8_read 113 = .ok (.ireturn, 1) := by decide +kernel
set_option maxRecDepth 20000 in
theorem ggX8_turnsOnce_X8_notes : GoodIn wsX8_turnsOnce wsX8_notes := goodIn_r _ [6, 7, 8, 1, 9, 10, 5, 11, 31, 32, 33, 34, 35, 36, 37, 38, 39, 40, 41, 42, 43, 44, 45, 46, 47, 48, 49, 50, 51, 52, 53, 54, 55, 56, 57, 58, 59, 60, 61, 62, 63] (by decide +kernel) (by decide +kernel)
set_option maxRecDepth 20000 in
theorem gX8_turnsOnce_X8_notes : GoodIn wsX8_turnsOnce (wsV RX8 120 RX8 yX8_notes wsX8_notes) := goodIn_app (goodIn_of _ (by decide +kernel)) ggX8_turnsOnce_X8_notes
set_option maxRecDepth 20000 in
theorem ggX8_turnsOnce_X8_draws : GoodIn wsX8_turnsOnce wsX8_draws := goodIn_r _ [15, 1, 16, 17, 18, 19, 31, 32, 33, 34, 35, 36, 37, 38, 39, 40, 41, 42, 43, 44, 45, 46, 47, 48, 49, 50, 51, 52, 53, 54, 55, 56, 57, 58, 59, 60, 61, 62, 63] (by decide +kernel) (by decide +kernel)
set_option maxRecDepth 20000 in
theorem gX8_turnsOnce_X8_draws : GoodIn wsX8_turnsOnce (wsV RX8 195 RX8 yX8_draws wsX8_draws) := goodIn_app (goodIn_of _ (by decide +kernel)) ggX8_turnsOnce_X8_draws
set_option maxRecDepth 20000 in
theorem ggX8_turnsOnce_X8_leftOf : GoodIn wsX8_turnsOnce wsX8_leftOf := goodIn_r _ [23, 1, 24, 25, 5, 26, 31, 32, 33, 34, 35, 36, 37, 38, 39, 40, 41, 42, 43, 44, 45, 46, 47, 48, 49, 50, 51, 52, 53, 54, 55, 56, 57, 58, 59, 60, 61, 62, 63] (by decide +kernel) (by decide +kernel)
set_option maxRecDepth 20000 in
theorem gX8_turnsOnce_X8_leftOf : GoodIn wsX8_turnsOnce (wsV RX8 116 RX8 yX8_leftOf wsX8_leftOf) := goodIn_app (goodIn_of _ (by decide +kernel)) ggX8_turnsOnce_X8_leftOf
set_option maxRecDepth 20000 in
theorem ggX8_turnsOnce_X8_begins : GoodIn wsX8_turnsOnce wsX8_begins := goodIn_r _ [30, 1, 31, 32, 33, 34, 35, 36, 37, 38, 39, 40, 41, 42, 43, 44, 45, 46, 47, 48, 49, 50, 51, 52, 53, 54, 55, 56, 57, 58, 59, 60, 61, 62, 63] (by decide +kernel) (by decide +kernel)
set_option maxRecDepth 20000 in
theorem gX8_turnsOnce_X8_begins : GoodIn wsX8_turnsOnce (wsV RX8 123 RX8 yX8_begins wsX8_begins) := goodIn_app (goodIn_of _ (by decide +kernel)) ggX8_turnsOnce_X8_begins
theorem dX8_turnsOnce_0 : decode cX8_turnsOnce 0 = .ok (.aload_n 0, 1) := by decide +kernel
theorem dX8_turnsOnce_1 : decode cX8_turnsOnce 1 = .ok (.invokevirtual 120, 3) := by decide +kernel
theorem dX8_turnsOnce_4 : decode cX8_turnsOnce 4 = .ok (.aload_n 0, 1) := by decide +kernel
theorem dX8_turnsOnce_5 : decode cX8_turnsOnce 5 = .ok (.invokevirtual 195, 3) := by decide +kernel
theorem dX8_turnsOnce_8 : decode cX8_turnsOnce 8 = .ok (.istore_n 1, 1) := by decide +kernel
theorem dX8_turnsOnce_9 : decode cX8_turnsOnce 9 = .ok (.iload_n 1, 1) := by decide +kernel
theorem dX8_turnsOnce_10 : decode cX8_turnsOnce 10 = .ok (.aload_n 0, 1) := by decide +kernel
theorem dX8_turnsOnce_11 : decode cX8_turnsOnce 11 = .ok (.getfield 7, 3) := by decide +kernel
theorem dX8_turnsOnce_14 : decode cX8_turnsOnce 14 = .ok (.iconst 0, 1) := by decide +kernel
theorem dX8_turnsOnce_15 : decode cX8_turnsOnce 15 = .ok (.iaload, 1) := by decide +kernel
theorem dX8_turnsOnce_16 : decode cX8_turnsOnce 16 = .ok (.irem, 1) := by decide +kernel
theorem dX8_turnsOnce_17 : decode cX8_turnsOnce 17 = .ok (.iconst 1, 1) := by decide +kernel
theorem dX8_turnsOnce_18 : decode cX8_turnsOnce 18 = .ok (.iadd, 1) := by decide +kernel
theorem dX8_turnsOnce_19 : decode cX8_turnsOnce 19 = .ok (.istore_n 2, 1) := by decide +kernel
theorem dX8_turnsOnce_20 : decode cX8_turnsOnce 20 = .ok (.iload_n 1, 1) := by decide +kernel
theorem dX8_turnsOnce_21 : decode cX8_turnsOnce 21 = .ok (.bipush 8, 2) := by decide +kernel
theorem dX8_turnsOnce_23 : decode cX8_turnsOnce 23 = .ok (.idiv, 1) := by decide +kernel
theorem dX8_turnsOnce_24 : decode cX8_turnsOnce 24 = .ok (.bipush 10, 2) := by decide +kernel
theorem dX8_turnsOnce_26 : decode cX8_turnsOnce 26 = .ok (.irem, 1) := by decide +kernel
theorem dX8_turnsOnce_27 : decode cX8_turnsOnce 27 = .ok (.istore_n 3, 1) := by decide +kernel
theorem dX8_turnsOnce_28 : decode cX8_turnsOnce 28 = .ok (.aload_n 0, 1) := by decide +kernel
theorem dX8_turnsOnce_29 : decode cX8_turnsOnce 29 = .ok (.iconst 0, 1) := by decide +kernel
theorem dX8_turnsOnce_30 : decode cX8_turnsOnce 30 = .ok (.invokevirtual 116, 3) := by decide +kernel
theorem dX8_turnsOnce_33 : decode cX8_turnsOnce 33 = .ok (.aload_n 0, 1) := by decide +kernel
theorem dX8_turnsOnce_34 : decode cX8_turnsOnce 34 = .ok (.getfield 7, 3) := by decide +kernel
theorem dX8_turnsOnce_37 : decode cX8_turnsOnce 37 = .ok (.iload_n 2, 1) := by decide +kernel
theorem dX8_turnsOnce_38 : decode cX8_turnsOnce 38 = .ok (.iaload, 1) := by decide +kernel
theorem dX8_turnsOnce_39 : decode cX8_turnsOnce 39 = .ok (.isub, 1) := by decide +kernel
theorem dX8_turnsOnce_40 : decode cX8_turnsOnce 40 = .ok (.iload_n 3, 1) := by decide +kernel
theorem dX8_turnsOnce_41 : decode cX8_turnsOnce 41 = .ok (.iadd, 1) := by decide +kernel
theorem dX8_turnsOnce_42 : decode cX8_turnsOnce 42 = .ok (.bipush 24, 2) := by decide +kernel
theorem dX8_turnsOnce_44 : decode cX8_turnsOnce 44 = .ok (.if_icmp .gt 28, 3) := by decide +kernel
theorem dX8_turnsOnce_47 : decode cX8_turnsOnce 47 = .ok (.iload_n 2, 1) := by decide +kernel
theorem dX8_turnsOnce_48 : decode cX8_turnsOnce 48 = .ok (.aload_n 0, 1) := by decide +kernel
theorem dX8_turnsOnce_49 : decode cX8_turnsOnce 49 = .ok (.getfield 7, 3) := by decide +kernel
theorem dX8_turnsOnce_52 : decode cX8_turnsOnce 52 = .ok (.iconst 0, 1) := by decide +kernel
theorem dX8_turnsOnce_53 : decode cX8_turnsOnce 53 = .ok (.iaload, 1) := by decide +kernel
theorem dX8_turnsOnce_54 : decode cX8_turnsOnce 54 = .ok (.if_icmp .lt 7, 3) := by decide +kernel
theorem dX8_turnsOnce_57 : decode cX8_turnsOnce 57 = .ok (.iload_n 3, 1) := by decide +kernel
theorem dX8_turnsOnce_58 : decode cX8_turnsOnce 58 = .ok (.ifCond .le 14, 3) := by decide +kernel
theorem dX8_turnsOnce_61 : decode cX8_turnsOnce 61 = .ok (.aload_n 0, 1) := by decide +kernel
theorem dX8_turnsOnce_62 : decode cX8_turnsOnce 62 = .ok (.getfield 7, 3) := by decide +kernel
theorem dX8_turnsOnce_65 : decode cX8_turnsOnce 65 = .ok (.iload_n 2, 1) := by decide +kernel
theorem dX8_turnsOnce_66 : decode cX8_turnsOnce 66 = .ok (.iload_n 3, 1) := by decide +kernel
theorem dX8_turnsOnce_67 : decode cX8_turnsOnce 67 = .ok (.iastore, 1) := by decide +kernel
theorem dX8_turnsOnce_68 : decode cX8_turnsOnce 68 = .ok (.aload_n 0, 1) := by decide +kernel
theorem dX8_turnsOnce_69 : decode cX8_turnsOnce 69 = .ok (.invokevirtual 123, 3) := by decide +kernel
theorem dX8_turnsOnce_72 : decode cX8_turnsOnce 72 = .ok (.return_, 1) := by decide +kernel
set_option maxRecDepth 20000 in
theorem ggX8_drift_X8_in : GoodIn wsX8_drift wsX8_in := goodIn_r _ [5] (by decide +kernel) (by decide +kernel)
set_option maxRecDepth 20000 in
theorem gX8_drift_X8_in : GoodIn wsX8_drift (va_wsS RX8 106 yX8_in wsX8_in) := goodIn_app (goodIn_of _ (by decide +kernel)) ggX8_drift_X8_in
set_option maxRecDepth 20000 in
theorem ggX8_drift_X8_turnsOnce : GoodIn wsX8_drift wsX8_turnsOnce := goodIn_r _ [9, 10, 11, 12, 13, 4, 14, 15, 16, 17, 18, 19, 20, 21, 22, 23, 24, 25, 26, 27, 28, 29, 30, 31, 32, 33, 34, 35, 36, 37, 38, 39, 40, 41, 42, 43, 44, 45, 46, 47, 48, 49, 50, 51, 52, 53, 54, 55, 56, 57, 58, 59, 60, 61, 62, 63, 64, 65, 66, 67, 68, 69, 70, 71] (by decide +kernel) (by decide +kernel)
set_option maxRecDepth 20000 in
theorem gX8_drift_X8_turnsOnce : GoodIn wsX8_drift (wsV RX8 264 RX8 yX8_turnsOnce wsX8_turnsOnce) := goodIn_app (goodIn_of _ (by decide +kernel)) ggX8_drift_X8_turnsOnce
set_option maxRecDepth 20000 in
theorem ggX8_drift_X8_leftOf : GoodIn wsX8_drift wsX8_leftOf := goodIn_r _ [31, 10, 32, 33, 4, 34, 39, 40, 41, 42, 43, 44, 45, 46, 47, 48, 49, 50, 51, 52, 53, 54, 55, 56, 57, 58, 59, 60, 61, 62, 63, 64, 65, 66, 67, 68, 69, 70, 71] (by decide +kernel) (by decide +kernel)
set_option maxRecDepth 20000 in
theorem gX8_drift_X8_leftOf : GoodIn wsX8_drift (wsV RX8 116 RX8 yX8_leftOf wsX8_leftOf) := goodIn_app (goodIn_of _ (by decide +kernel)) ggX8_drift_X8_leftOf
theorem dX8_drift_0 : decode cX8_drift 0 = .ok (.iload_n 1, 1) := by decide +kernel
theorem dX8_drift_1 : decode cX8_drift 1 = .ok (.i2l, 1) := by decide +kernel
theorem dX8_drift_2 : decode cX8_drift 2 = .ok (.lconst 1, 1) := by decide +kernel
theorem dX8_drift_3 : decode cX8_drift 3 = .ok (.ldc2_w 262, 3) := by decide +kernel
theorem dX8_drift_6 : decode cX8_drift 6 = .ok (.invokestatic 106, 3) := by decide +kernel
theorem dX8_drift_9 : decode cX8_drift 9 = .ok (.ifCond .ne 5, 3) := by decide +kernel
theorem dX8_drift_12 : decode cX8_drift 12 = .ok (.iconst (-1), 1) := by decide +kernel
theorem dX8_drift_13 : decode cX8_drift 13 = .ok (.ireturn, 1) := by decide +kernel
theorem dX8_drift_14 : decode cX8_drift 14 = .ok (.iconst 0, 1) := by decide +kernel
theorem dX8_drift_15 : decode cX8_drift 15 = .ok (.istore_n 2, 1) := by decide +kernel
theorem dX8_drift_16 : decode cX8_drift 16 = .ok (.iload_n 2, 1) := by decide +kernel
theorem dX8_drift_17 : decode cX8_drift 17 = .ok (.iload_n 1, 1) := by decide +kernel
theorem dX8_drift_18 : decode cX8_drift 18 = .ok (.if_icmp .ge 13, 3) := by decide +kernel
theorem dX8_drift_21 : decode cX8_drift 21 = .ok (.aload_n 0, 1) := by decide +kernel
theorem dX8_drift_22 : decode cX8_drift 22 = .ok (.invokevirtual 264, 3) := by decide +kernel
theorem dX8_drift_25 : decode cX8_drift 25 = .ok (.iinc 2 1, 3) := by decide +kernel
theorem dX8_drift_28 : decode cX8_drift 28 = .ok (.goto (-12), 3) := by decide +kernel
theorem dX8_drift_31 : decode cX8_drift 31 = .ok (.aload_n 0, 1) := by decide +kernel
theorem dX8_drift_32 : decode cX8_drift 32 = .ok (.iconst 0, 1) := by decide +kernel
theorem dX8_drift_33 : decode cX8_drift 33 = .ok (.invokevirtual 116, 3) := by decide +kernel
theorem dX8_drift_36 : decode cX8_drift 36 = .ok (.ireturn, 1) := by decide +kernel
set_option maxRecDepth 20000 in
theorem ggX8_undo_X8_bring : GoodIn wsX8_undo wsX8_bring := goodIn_r _ [7] (by decide +kernel) (by decide +kernel)
set_option maxRecDepth 20000 in
theorem gX8_undo_X8_bring : GoodIn wsX8_undo (va_wsS RX8 75 yX8_bring wsX8_bring) := goodIn_app (goodIn_of _ (by decide +kernel)) ggX8_undo_X8_bring
theorem dX8_undo_0 : decode cX8_undo 0 = .ok (.aload_n 0, 1) := by decide +kernel
theorem dX8_undo_1 : decode cX8_undo 1 = .ok (.getfield 72, 3) := by decide +kernel
theorem dX8_undo_4 : decode cX8_undo 4 = .ok (.ifCond .ne 6, 3) := by decide +kernel
theorem dX8_undo_7 : decode cX8_undo 7 = .ok (.bipush (-4), 2) := by decide +kernel
theorem dX8_undo_9 : decode cX8_undo 9 = .ok (.ireturn, 1) := by decide +kernel
theorem dX8_undo_10 : decode cX8_undo 10 = .ok (.aload_n 0, 1) := by decide +kernel
theorem dX8_undo_11 : decode cX8_undo 11 = .ok (.dup, 1) := by decide +kernel
theorem dX8_undo_12 : decode cX8_undo 12 = .ok (.getfield 72, 3) := by decide +kernel
theorem dX8_undo_15 : decode cX8_undo 15 = .ok (.iconst 1, 1) := by decide +kernel
theorem dX8_undo_16 : decode cX8_undo 16 = .ok (.isub, 1) := by decide +kernel
theorem dX8_undo_17 : decode cX8_undo 17 = .ok (.putfield 72, 3) := by decide +kernel
theorem dX8_undo_20 : decode cX8_undo 20 = .ok (.aload_n 0, 1) := by decide +kernel
theorem dX8_undo_21 : decode cX8_undo 21 = .ok (.getfield 13, 3) := by decide +kernel
theorem dX8_undo_24 : decode cX8_undo 24 = .ok (.bipush 18, 2) := by decide +kernel
theorem dX8_undo_26 : decode cX8_undo 26 = .ok (.aload_n 0, 1) := by decide +kernel
theorem dX8_undo_27 : decode cX8_undo 27 = .ok (.getfield 72, 3) := by decide +kernel
theorem dX8_undo_30 : decode cX8_undo 30 = .ok (.imul, 1) := by decide +kernel
theorem dX8_undo_31 : decode cX8_undo 31 = .ok (.aload_n 0, 1) := by decide +kernel
theorem dX8_undo_32 : decode cX8_undo 32 = .ok (.getfield 7, 3) := by decide +kernel
theorem dX8_undo_35 : decode cX8_undo 35 = .ok (.iconst 0, 1) := by decide +kernel
theorem dX8_undo_36 : decode cX8_undo 36 = .ok (.bipush 18, 2) := by decide +kernel
theorem dX8_undo_38 : decode cX8_undo 38 = .ok (.invokestatic 75, 3) := by decide +kernel
theorem dX8_undo_41 : decode cX8_undo 41 = .ok (.aload_n 0, 1) := by decide +kernel
theorem dX8_undo_42 : decode cX8_undo 42 = .ok (.getfield 72, 3) := by decide +kernel
theorem dX8_undo_45 : decode cX8_undo 45 = .ok (.ireturn, 1) := by decide +kernel
theorem dX8_seed_0 : decode cX8_seed 0 = .ok (.iload_n 1, 1) := by decide +kernel
theorem dX8_seed_1 : decode cX8_seed 1 = .ok (.ifCond .ge 5, 3) := by decide +kernel
theorem dX8_seed_4 : decode cX8_seed 4 = .ok (.iconst (-1), 1) := by decide +kernel
theorem dX8_seed_5 : decode cX8_seed 5 = .ok (.ireturn, 1) := by decide +kernel
theorem dX8_seed_6 : decode cX8_seed 6 = .ok (.aload_n 0, 1) := by decide +kernel
theorem dX8_seed_7 : decode cX8_seed 7 = .ok (.getfield 7, 3) := by decide +kernel
theorem dX8_seed_10 : decode cX8_seed 10 = .ok (.bipush 12, 2) := by decide +kernel
theorem dX8_seed_12 : decode cX8_seed 12 = .ok (.iaload, 1) := by decide +kernel
theorem dX8_seed_13 : decode cX8_seed 13 = .ok (.istore_n 2, 1) := by decide +kernel
theorem dX8_seed_14 : decode cX8_seed 14 = .ok (.aload_n 0, 1) := by decide +kernel
theorem dX8_seed_15 : decode cX8_seed 15 = .ok (.getfield 7, 3) := by decide +kernel
theorem dX8_seed_18 : decode cX8_seed 18 = .ok (.bipush 12, 2) := by decide +kernel
theorem dX8_seed_20 : decode cX8_seed 20 = .ok (.iload_n 1, 1) := by decide +kernel
theorem dX8_seed_21 : decode cX8_seed 21 = .ok (.iastore, 1) := by decide +kernel
theorem dX8_seed_22 : decode cX8_seed 22 = .ok (.iload_n 2, 1) := by decide +kernel
theorem dX8_seed_23 : decode cX8_seed 23 = .ok (.ireturn, 1) := by decide +kernel
set_option maxRecDepth 20000 in
theorem ggX8_image_X8_bring : GoodIn wsX8_image wsX8_bring := goodIn_r _ [10] (by decide +kernel) (by decide +kernel)
set_option maxRecDepth 20000 in
theorem gX8_image_X8_bring : GoodIn wsX8_image (va_wsS RX8 75 yX8_bring wsX8_bring) := goodIn_app (goodIn_of _ (by decide +kernel)) ggX8_image_X8_bring
theorem dX8_image_0 : decode cX8_image 0 = .ok (.aload_n 0, 1) := by decide +kernel
theorem dX8_image_1 : decode cX8_image 1 = .ok (.getfield 7, 3) := by decide +kernel
theorem dX8_image_4 : decode cX8_image 4 = .ok (.iconst 0, 1) := by decide +kernel
theorem dX8_image_5 : decode cX8_image 5 = .ok (.aload_n 0, 1) := by decide +kernel
theorem dX8_image_6 : decode cX8_image 6 = .ok (.getfield 16, 3) := by decide +kernel
theorem dX8_image_9 : decode cX8_image 9 = .ok (.iconst 0, 1) := by decide +kernel
theorem dX8_image_10 : decode cX8_image 10 = .ok (.bipush 18, 2) := by decide +kernel
theorem dX8_image_12 : decode cX8_image 12 = .ok (.invokestatic 75, 3) := by decide +kernel
theorem dX8_image_15 : decode cX8_image 15 = .ok (.aload_n 0, 1) := by decide +kernel
theorem dX8_image_16 : decode cX8_image 16 = .ok (.getfield 13, 3) := by decide +kernel
theorem dX8_image_19 : decode cX8_image 19 = .ok (.iconst 0, 1) := by decide +kernel
theorem dX8_image_20 : decode cX8_image 20 = .ok (.aload_n 0, 1) := by decide +kernel
theorem dX8_image_21 : decode cX8_image 21 = .ok (.getfield 19, 3) := by decide +kernel
theorem dX8_image_24 : decode cX8_image 24 = .ok (.iconst 0, 1) := by decide +kernel
theorem dX8_image_25 : decode cX8_image 25 = .ok (.bipush 108, 2) := by decide +kernel
theorem dX8_image_27 : decode cX8_image 27 = .ok (.invokestatic 75, 3) := by decide +kernel
theorem dX8_image_30 : decode cX8_image 30 = .ok (.aload_n 0, 1) := by decide +kernel
theorem dX8_image_31 : decode cX8_image 31 = .ok (.aload_n 0, 1) := by decide +kernel
theorem dX8_image_32 : decode cX8_image 32 = .ok (.getfield 72, 3) := by decide +kernel
theorem dX8_image_35 : decode cX8_image 35 = .ok (.putfield 22, 3) := by decide +kernel
theorem dX8_image_38 : decode cX8_image 38 = .ok (.iconst 1, 1) := by decide +kernel
theorem dX8_image_39 : decode cX8_image 39 = .ok (.ireturn, 1) := by decide +kernel
set_option maxRecDepth 20000 in
theorem ggX8_restore_X8_bring : GoodIn wsX8_restore wsX8_bring := goodIn_r _ [10] (by decide +kernel) (by decide +kernel)
set_option maxRecDepth 20000 in
theorem gX8_restore_X8_bring : GoodIn wsX8_restore (va_wsS RX8 75 yX8_bring wsX8_bring) := goodIn_app (goodIn_of _ (by decide +kernel)) ggX8_restore_X8_bring
theorem dX8_restore_0 : decode cX8_restore 0 = .ok (.aload_n 0, 1) := by decide +kernel
theorem dX8_restore_1 : decode cX8_restore 1 = .ok (.getfield 22, 3) := by decide +kernel
theorem dX8_restore_4 : decode cX8_restore 4 = .ok (.ifCond .ge 6, 3) := by decide +kernel
theorem dX8_restore_7 : decode cX8_restore 7 = .ok (.bipush (-4), 2) := by decide +kernel
theorem dX8_restore_9 : decode cX8_restore 9 = .ok (.ireturn, 1) := by decide +kernel
theorem dX8_restore_10 : decode cX8_restore 10 = .ok (.aload_n 0, 1) := by decide +kernel
theorem dX8_restore_11 : decode cX8_restore 11 = .ok (.getfield 16, 3) := by decide +kernel
theorem dX8_restore_14 : decode cX8_restore 14 = .ok (.iconst 0, 1) := by decide +kernel
theorem dX8_restore_15 : decode cX8_restore 15 = .ok (.aload_n 0, 1) := by decide +kernel
theorem dX8_restore_16 : decode cX8_restore 16 = .ok (.getfield 7, 3) := by decide +kernel
theorem dX8_restore_19 : decode cX8_restore 19 = .ok (.iconst 0, 1) := by decide +kernel
theorem dX8_restore_20 : decode cX8_restore 20 = .ok (.bipush 18, 2) := by decide +kernel
theorem dX8_restore_22 : decode cX8_restore 22 = .ok (.invokestatic 75, 3) := by decide +kernel
theorem dX8_restore_25 : decode cX8_restore 25 = .ok (.aload_n 0, 1) := by decide +kernel
theorem dX8_restore_26 : decode cX8_restore 26 = .ok (.getfield 19, 3) := by decide +kernel
theorem dX8_restore_29 : decode cX8_restore 29 = .ok (.iconst 0, 1) := by decide +kernel
theorem dX8_restore_30 : decode cX8_restore 30 = .ok (.aload_n 0, 1) := by decide +kernel
theorem dX8_restore_31 : decode cX8_restore 31 = .ok (.getfield 13, 3) := by decide +kernel
theorem dX8_restore_34 : decode cX8_restore 34 = .ok (.iconst 0, 1) := by decide +kernel
theorem dX8_restore_35 : decode cX8_restore 35 = .ok (.bipush 108, 2) := by decide +kernel
theorem dX8_restore_37 : decode cX8_restore 37 = .ok (.invokestatic 75, 3) := by decide +kernel
theorem dX8_restore_40 : decode cX8_restore 40 = .ok (.aload_n 0, 1) := by decide +kernel
theorem dX8_restore_41 : decode cX8_restore 41 = .ok (.aload_n 0, 1) := by decide +kernel
theorem dX8_restore_42 : decode cX8_restore 42 = .ok (.getfield 22, 3) := by decide +kernel
theorem dX8_restore_45 : decode cX8_restore 45 = .ok (.putfield 72, 3) := by decide +kernel
theorem dX8_restore_48 : decode cX8_restore 48 = .ok (.iconst 1, 1) := by decide +kernel
theorem dX8_restore_49 : decode cX8_restore 49 = .ok (.ireturn, 1) := by decide +kernel
set_option maxRecDepth 20000 in
theorem ggX8_isSheet_X8_in : GoodIn wsX8_isSheet wsX8_in := goodIn_r _ [5] (by decide +kernel) (by decide +kernel)
set_option maxRecDepth 20000 in
theorem gX8_isSheet_X8_in : GoodIn wsX8_isSheet (va_wsS RX8 106 yX8_in wsX8_in) := goodIn_app (goodIn_of _ (by decide +kernel)) ggX8_isSheet_X8_in
theorem dX8_isSheet_0 : decode cX8_isSheet 0 = .ok (.iload_n 0, 1) := by decide +kernel
theorem dX8_isSheet_1 : decode cX8_isSheet 1 = .ok (.i2l, 1) := by decide +kernel
theorem dX8_isSheet_2 : decode cX8_isSheet 2 = .ok (.lconst 0, 1) := by decide +kernel
theorem dX8_isSheet_3 : decode cX8_isSheet 3 = .ok (.ldc2_w 130, 3) := by decide +kernel
theorem dX8_isSheet_6 : decode cX8_isSheet 6 = .ok (.invokestatic 106, 3) := by decide +kernel
theorem dX8_isSheet_9 : decode cX8_isSheet 9 = .ok (.ifCond .eq 19, 3) := by decide +kernel
theorem dX8_isSheet_12 : decode cX8_isSheet 12 = .ok (.iload_n 1, 1) := by decide +kernel
theorem dX8_isSheet_13 : decode cX8_isSheet 13 = .ok (.i2l, 1) := by decide +kernel
theorem dX8_isSheet_14 : decode cX8_isSheet 14 = .ok (.lconst 0, 1) := by decide +kernel
theorem dX8_isSheet_15 : decode cX8_isSheet 15 = .ok (.ldc2_w 130, 3) := by decide +kernel
theorem dX8_isSheet_18 : decode cX8_isSheet 18 = .ok (.invokestatic 106, 3) := by decide +kernel
theorem dX8_isSheet_21 : decode cX8_isSheet 21 = .ok (.ifCond .eq 7, 3) := by decide +kernel
theorem dX8_isSheet_24 : decode cX8_isSheet 24 = .ok (.iconst 1, 1) := by decide +kernel
theorem dX8_isSheet_25 : decode cX8_isSheet 25 = .ok (.goto 4, 3) := by decide +kernel
theorem dX8_isSheet_28 : decode cX8_isSheet 28 = .ok (.iconst 0, 1) := by decide +kernel
theorem dX8_isSheet_29 : decode cX8_isSheet 29 = .ok (.ireturn, 1) := by decide +kernel
theorem dX8_found_0 : decode cX8_found 0 = .ok (.aload_n 0, 1) := by decide +kernel
theorem dX8_found_1 : decode cX8_found 1 = .ok (.getfield 29, 3) := by decide +kernel
theorem dX8_found_4 : decode cX8_found 4 = .ok (.iload_n 1, 1) := by decide +kernel
theorem dX8_found_5 : decode cX8_found 5 = .ok (.iaload, 1) := by decide +kernel
theorem dX8_found_6 : decode cX8_found 6 = .ok (.ifCond .ge 6, 3) := by decide +kernel
theorem dX8_found_9 : decode cX8_found 9 = .ok (.bipush (-11), 2) := by decide +kernel
theorem dX8_found_11 : decode cX8_found 11 = .ok (.ireturn, 1) := by decide +kernel
theorem dX8_found_12 : decode cX8_found 12 = .ok (.aload_n 0, 1) := by decide +kernel
theorem dX8_found_13 : decode cX8_found 13 = .ok (.getfield 29, 3) := by decide +kernel
theorem dX8_found_16 : decode cX8_found 16 = .ok (.iload_n 1, 1) := by decide +kernel
theorem dX8_found_17 : decode cX8_found 17 = .ok (.iaload, 1) := by decide +kernel
theorem dX8_found_18 : decode cX8_found 18 = .ok (.iload_n 2, 1) := by decide +kernel
theorem dX8_found_19 : decode cX8_found 19 = .ok (.if_icmp .eq 6, 3) := by decide +kernel
theorem dX8_found_22 : decode cX8_found 22 = .ok (.bipush (-12), 2) := by decide +kernel
theorem dX8_found_24 : decode cX8_found 24 = .ok (.ireturn, 1) := by decide +kernel
theorem dX8_found_25 : decode cX8_found 25 = .ok (.iload_n 3, 1) := by decide +kernel
theorem dX8_found_26 : decode cX8_found 26 = .ok (.ifCond .lt 16, 3) := by decide +kernel
theorem dX8_found_29 : decode cX8_found 29 = .ok (.iload_n 3, 1) := by decide +kernel
theorem dX8_found_30 : decode cX8_found 30 = .ok (.aload_n 0, 1) := by decide +kernel
theorem dX8_found_31 : decode cX8_found 31 = .ok (.getfield 32, 3) := by decide +kernel
theorem dX8_found_34 : decode cX8_found 34 = .ok (.iload_n 1, 1) := by decide +kernel
theorem dX8_found_35 : decode cX8_found 35 = .ok (.iaload, 1) := by decide +kernel
theorem dX8_found_36 : decode cX8_found 36 = .ok (.iload 4, 2) := by decide +kernel
theorem dX8_found_38 : decode cX8_found 38 = .ok (.isub, 1) := by decide +kernel
theorem dX8_found_39 : decode cX8_found 39 = .ok (.if_icmp .le 8, 3) := by decide +kernel
theorem dX8_found_42 : decode cX8_found 42 = .ok (.bipush (-13), 2) := by decide +kernel
theorem dX8_found_44 : decode cX8_found 44 = .ok (.goto 4, 3) := by decide +kernel
theorem dX8_found_47 : decode cX8_found 47 = .ok (.iconst 0, 1) := by decide +kernel
theorem dX8_found_48 : decode cX8_found 48 = .ok (.ireturn, 1) := by decide +kernel
set_option maxRecDepth 20000 in
theorem ggX8_seen_X8_isSheet : GoodIn wsX8_seen wsX8_isSheet := goodIn_r _ [8, 9, 10, 11, 7, 12] (by decide +kernel) (by decide +kernel)
set_option maxRecDepth 20000 in
theorem gX8_seen_X8_isSheet : GoodIn wsX8_seen (va_wsS RX8 267 yX8_isSheet wsX8_isSheet) := goodIn_app (goodIn_of _ (by decide +kernel)) ggX8_seen_X8_isSheet
set_option maxRecDepth 20000 in
theorem ggX8_seen_X8_in : GoodIn wsX8_seen wsX8_in := goodIn_r _ [12] (by decide +kernel) (by decide +kernel)
set_option maxRecDepth 20000 in
theorem gX8_seen_X8_in : GoodIn wsX8_seen (va_wsS RX8 106 yX8_in wsX8_in) := goodIn_app (goodIn_of _ (by decide +kernel)) ggX8_seen_X8_in
set_option maxRecDepth 20000 in
theorem ggX8_seen_X8_found : GoodIn wsX8_seen wsX8_found := goodIn_r _ [16, 17, 18, 43, 44, 45, 46, 47, 48, 49, 50, 51, 52, 53, 54, 55, 56, 57, 58, 59, 60, 61, 62, 63, 64, 65, 66, 67, 68, 69, 70, 71, 72, 73, 74, 75] (by decide +kernel) (by decide +kernel)
set_option maxRecDepth 20000 in
theorem gX8_seen_X8_found : GoodIn wsX8_seen (wsV RX8 273 RX8 yX8_found wsX8_found) := goodIn_app (goodIn_of _ (by decide +kernel)) ggX8_seen_X8_found
set_option maxRecDepth 20000 in
theorem ggX8_seen_X8_bestAge : GoodIn wsX8_seen wsX8_bestAge := goodIn_r _ [22, 23, 24, 25, 26, 27, 7, 28, 29, 30, 31, 32, 33, 34, 35, 36, 37, 38, 39, 40, 41, 42, 43, 44, 45, 46, 47, 48, 49, 50, 51, 52, 53, 54, 55, 56, 57, 58, 59, 60, 61, 62, 63, 64, 65, 66, 67, 68, 69, 70, 71, 72, 73, 74, 75] (by decide +kernel) (by decide +kernel)
set_option maxRecDepth 20000 in
theorem gX8_seen_X8_bestAge : GoodIn wsX8_seen (wsV RX8 207 RX8 yX8_bestAge wsX8_bestAge) := goodIn_app (goodIn_of _ (by decide +kernel)) ggX8_seen_X8_bestAge
theorem dX8_seen_0 : decode cX8_seen 0 = .ok (.iload_n 1, 1) := by decide +kernel
theorem dX8_seen_1 : decode cX8_seen 1 = .ok (.iload_n 2, 1) := by decide +kernel
theorem dX8_seen_2 : decode cX8_seen 2 = .ok (.invokestatic 267, 3) := by decide +kernel
theorem dX8_seen_5 : decode cX8_seen 5 = .ok (.ifCond .eq 16, 3) := by decide +kernel
theorem dX8_seen_8 : decode cX8_seen 8 = .ok (.iload 4, 2) := by decide +kernel
theorem dX8_seen_10 : decode cX8_seen 10 = .ok (.i2l, 1) := by decide +kernel
theorem dX8_seen_11 : decode cX8_seen 11 = .ok (.lconst 1, 1) := by decide +kernel
theorem dX8_seen_12 : decode cX8_seen 12 = .ok (.ldc2_w 271, 3) := by decide +kernel
theorem dX8_seen_15 : decode cX8_seen 15 = .ok (.invokestatic 106, 3) := by decide +kernel
theorem dX8_seen_18 : decode cX8_seen 18 = .ok (.ifCond .ne 5, 3) := by decide +kernel
theorem dX8_seen_21 : decode cX8_seen 21 = .ok (.iconst (-1), 1) := by decide +kernel
theorem dX8_seen_22 : decode cX8_seen 22 = .ok (.ireturn, 1) := by decide +kernel
theorem dX8_seen_23 : decode cX8_seen 23 = .ok (.aload_n 0, 1) := by decide +kernel
theorem dX8_seen_24 : decode cX8_seen 24 = .ok (.iload_n 1, 1) := by decide +kernel
theorem dX8_seen_25 : decode cX8_seen 25 = .ok (.iload_n 2, 1) := by decide +kernel
theorem dX8_seen_26 : decode cX8_seen 26 = .ok (.iload_n 3, 1) := by decide +kernel
theorem dX8_seen_27 : decode cX8_seen 27 = .ok (.iload 4, 2) := by decide +kernel
theorem dX8_seen_29 : decode cX8_seen 29 = .ok (.invokevirtual 273, 3) := by decide +kernel
theorem dX8_seen_32 : decode cX8_seen 32 = .ok (.istore 5, 2) := by decide +kernel
theorem dX8_seen_34 : decode cX8_seen 34 = .ok (.iload 5, 2) := by decide +kernel
theorem dX8_seen_36 : decode cX8_seen 36 = .ok (.ifCond .eq 6, 3) := by decide +kernel
theorem dX8_seen_39 : decode cX8_seen 39 = .ok (.iload 5, 2) := by decide +kernel
theorem dX8_seen_41 : decode cX8_seen 41 = .ok (.ireturn, 1) := by decide +kernel
theorem dX8_seen_42 : decode cX8_seen 42 = .ok (.iconst 0, 1) := by decide +kernel
theorem dX8_seen_43 : decode cX8_seen 43 = .ok (.istore 6, 2) := by decide +kernel
theorem dX8_seen_45 : decode cX8_seen 45 = .ok (.iconst 0, 1) := by decide +kernel
theorem dX8_seen_46 : decode cX8_seen 46 = .ok (.istore 7, 2) := by decide +kernel
theorem dX8_seen_48 : decode cX8_seen 48 = .ok (.iload 7, 2) := by decide +kernel
theorem dX8_seen_50 : decode cX8_seen 50 = .ok (.bipush 9, 2) := by decide +kernel
theorem dX8_seen_52 : decode cX8_seen 52 = .ok (.if_icmp .ge 17, 3) := by decide +kernel
theorem dX8_seen_55 : decode cX8_seen 55 = .ok (.aload_n 0, 1) := by decide +kernel
theorem dX8_seen_56 : decode cX8_seen 56 = .ok (.getfield 39, 3) := by decide +kernel
theorem dX8_seen_59 : decode cX8_seen 59 = .ok (.iload 7, 2) := by decide +kernel
theorem dX8_seen_61 : decode cX8_seen 61 = .ok (.iconst 0, 1) := by decide +kernel
theorem dX8_seen_62 : decode cX8_seen 62 = .ok (.iastore, 1) := by decide +kernel
theorem dX8_seen_63 : decode cX8_seen 63 = .ok (.iinc 7 1, 3) := by decide +kernel
theorem dX8_seen_66 : decode cX8_seen 66 = .ok (.goto (-18), 3) := by decide +kernel
theorem dX8_seen_69 : decode cX8_seen 69 = .ok (.iconst 0, 1) := by decide +kernel
theorem dX8_seen_70 : decode cX8_seen 70 = .ok (.istore 7, 2) := by decide +kernel
theorem dX8_seen_72 : decode cX8_seen 72 = .ok (.iload 7, 2) := by decide +kernel
theorem dX8_seen_74 : decode cX8_seen 74 = .ok (.iload 4, 2) := by decide +kernel
theorem dX8_seen_76 : decode cX8_seen 76 = .ok (.if_icmp .ge 71, 3) := by decide +kernel
theorem dX8_seen_79 : decode cX8_seen 79 = .ok (.aload_n 0, 1) := by decide +kernel
theorem dX8_seen_80 : decode cX8_seen 80 = .ok (.getfield 35, 3) := by decide +kernel
theorem dX8_seen_83 : decode cX8_seen 83 = .ok (.bipush 24, 2) := by decide +kernel
theorem dX8_seen_85 : decode cX8_seen 85 = .ok (.iload_n 1, 1) := by decide +kernel
theorem dX8_seen_86 : decode cX8_seen 86 = .ok (.imul, 1) := by decide +kernel
theorem dX8_seen_87 : decode cX8_seen 87 = .ok (.iload_n 3, 1) := by decide +kernel
theorem dX8_seen_88 : decode cX8_seen 88 = .ok (.iadd, 1) := by decide +kernel
theorem dX8_seen_89 : decode cX8_seen 89 = .ok (.iload 7, 2) := by decide +kernel
theorem dX8_seen_91 : decode cX8_seen 91 = .ok (.iadd, 1) := by decide +kernel
theorem dX8_seen_92 : decode cX8_seen 92 = .ok (.laload, 1) := by decide +kernel
theorem dX8_seen_93 : decode cX8_seen 93 = .ok (.lstore 8, 2) := by decide +kernel
theorem dX8_seen_95 : decode cX8_seen 95 = .ok (.lload 8, 2) := by decide +kernel
theorem dX8_seen_97 : decode cX8_seen 97 = .ok (.lconst 1, 1) := by decide +kernel
theorem dX8_seen_98 : decode cX8_seen 98 = .ok (.ldc2_w 126, 3) := by decide +kernel
theorem dX8_seen_101 : decode cX8_seen 101 = .ok (.invokestatic 106, 3) := by decide +kernel
theorem dX8_seen_104 : decode cX8_seen 104 = .ok (.ifCond .ne 6, 3) := by decide +kernel
theorem dX8_seen_107 : decode cX8_seen 107 = .ok (.bipush (-2), 2) := by decide +kernel
theorem dX8_seen_109 : decode cX8_seen 109 = .ok (.ireturn, 1) := by decide +kernel
theorem dX8_seen_110 : decode cX8_seen 110 = .ok (.aload_n 0, 1) := by decide +kernel
theorem dX8_seen_111 : decode cX8_seen 111 = .ok (.getfield 39, 3) := by decide +kernel
theorem dX8_seen_114 : decode cX8_seen 114 = .ok (.lload 8, 2) := by decide +kernel
theorem dX8_seen_116 : decode cX8_seen 116 = .ok (.l2i, 1) := by decide +kernel
theorem dX8_seen_117 : decode cX8_seen 117 = .ok (.dup2, 1) := by decide +kernel
theorem dX8_seen_118 : decode cX8_seen 118 = .ok (.iaload, 1) := by decide +kernel
theorem dX8_seen_119 : decode cX8_seen 119 = .ok (.iconst 1, 1) := by decide +kernel
theorem dX8_seen_120 : decode cX8_seen 120 = .ok (.iadd, 1) := by decide +kernel
theorem dX8_seen_121 : decode cX8_seen 121 = .ok (.iastore, 1) := by decide +kernel
theorem dX8_seen_122 : decode cX8_seen 122 = .ok (.lload 8, 2) := by decide +kernel
theorem dX8_seen_124 : decode cX8_seen 124 = .ok (.iload 6, 2) := by decide +kernel
theorem dX8_seen_126 : decode cX8_seen 126 = .ok (.i2l, 1) := by decide +kernel
theorem dX8_seen_127 : decode cX8_seen 127 = .ok (.lcmp, 1) := by decide +kernel
theorem dX8_seen_128 : decode cX8_seen 128 = .ok (.ifCond .le 9, 3) := by decide +kernel
theorem dX8_seen_131 : decode cX8_seen 131 = .ok (.lload 8, 2) := by decide +kernel
theorem dX8_seen_133 : decode cX8_seen 133 = .ok (.l2i, 1) := by decide +kernel
theorem dX8_seen_134 : decode cX8_seen 134 = .ok (.goto 5, 3) := by decide +kernel
theorem dX8_seen_137 : decode cX8_seen 137 = .ok (.iload 6, 2) := by decide +kernel
theorem dX8_seen_139 : decode cX8_seen 139 = .ok (.istore 6, 2) := by decide +kernel
theorem dX8_seen_141 : decode cX8_seen 141 = .ok (.iinc 7 1, 3) := by decide +kernel
theorem dX8_seen_144 : decode cX8_seen 144 = .ok (.goto (-72), 3) := by decide +kernel
theorem dX8_seen_147 : decode cX8_seen 147 = .ok (.aload_n 0, 1) := by decide +kernel
theorem dX8_seen_148 : decode cX8_seen 148 = .ok (.aload_n 0, 1) := by decide +kernel
theorem dX8_seen_149 : decode cX8_seen 149 = .ok (.getfield 39, 3) := by decide +kernel
theorem dX8_seen_152 : decode cX8_seen 152 = .ok (.iload 6, 2) := by decide +kernel
theorem dX8_seen_154 : decode cX8_seen 154 = .ok (.invokevirtual 207, 3) := by decide +kernel
theorem dX8_seen_157 : decode cX8_seen 157 = .ok (.ireturn, 1) := by decide +kernel
set_option maxRecDepth 20000 in
theorem ggX8_film_X8_isSheet : GoodIn wsX8_film wsX8_isSheet := goodIn_r _ [6, 7, 8, 9, 5, 10] (by decide +kernel) (by decide +kernel)
set_option maxRecDepth 20000 in
theorem gX8_film_X8_isSheet : GoodIn wsX8_film (va_wsS RX8 267 yX8_isSheet wsX8_isSheet) := goodIn_app (goodIn_of _ (by decide +kernel)) ggX8_film_X8_isSheet
set_option maxRecDepth 20000 in
theorem ggX8_film_X8_found : GoodIn wsX8_film wsX8_found := goodIn_r _ [14, 15, 16, 17, 18, 19, 20, 21, 22, 23, 24, 25, 26, 27, 28, 29, 30, 31, 32, 33, 34, 35, 36, 37, 38, 39, 40, 41, 42, 43, 44, 45, 46, 47, 48, 49] (by decide +kernel) (by decide +kernel)
set_option maxRecDepth 20000 in
theorem gX8_film_X8_found : GoodIn wsX8_film (wsV RX8 273 RX8 yX8_found wsX8_found) := goodIn_app (goodIn_of _ (by decide +kernel)) ggX8_film_X8_found
theorem dX8_film_0 : decode cX8_film 0 = .ok (.iload_n 1, 1) := by decide +kernel
theorem dX8_film_1 : decode cX8_film 1 = .ok (.iload_n 2, 1) := by decide +kernel
theorem dX8_film_2 : decode cX8_film 2 = .ok (.invokestatic 267, 3) := by decide +kernel
theorem dX8_film_5 : decode cX8_film 5 = .ok (.ifCond .ne 5, 3) := by decide +kernel
theorem dX8_film_8 : decode cX8_film 8 = .ok (.iconst (-1), 1) := by decide +kernel
theorem dX8_film_9 : decode cX8_film 9 = .ok (.ireturn, 1) := by decide +kernel
theorem dX8_film_10 : decode cX8_film 10 = .ok (.aload_n 0, 1) := by decide +kernel
theorem dX8_film_11 : decode cX8_film 11 = .ok (.iload_n 1, 1) := by decide +kernel
theorem dX8_film_12 : decode cX8_film 12 = .ok (.iload_n 2, 1) := by decide +kernel
theorem dX8_film_13 : decode cX8_film 13 = .ok (.iload_n 3, 1) := by decide +kernel
theorem dX8_film_14 : decode cX8_film 14 = .ok (.aload_n 0, 1) := by decide +kernel
theorem dX8_film_15 : decode cX8_film 15 = .ok (.getfield 7, 3) := by decide +kernel
theorem dX8_film_18 : decode cX8_film 18 = .ok (.iconst 0, 1) := by decide +kernel
theorem dX8_film_19 : decode cX8_film 19 = .ok (.iaload, 1) := by decide +kernel
theorem dX8_film_20 : decode cX8_film 20 = .ok (.invokevirtual 273, 3) := by decide +kernel
theorem dX8_film_23 : decode cX8_film 23 = .ok (.istore 4, 2) := by decide +kernel
theorem dX8_film_25 : decode cX8_film 25 = .ok (.iload 4, 2) := by decide +kernel
theorem dX8_film_27 : decode cX8_film 27 = .ok (.ifCond .eq 6, 3) := by decide +kernel
theorem dX8_film_30 : decode cX8_film 30 = .ok (.iload 4, 2) := by decide +kernel
theorem dX8_film_32 : decode cX8_film 32 = .ok (.ireturn, 1) := by decide +kernel
theorem dX8_film_33 : decode cX8_film 33 = .ok (.iconst 1, 1) := by decide +kernel
theorem dX8_film_34 : decode cX8_film 34 = .ok (.istore 5, 2) := by decide +kernel
theorem dX8_film_36 : decode cX8_film 36 = .ok (.iload 5, 2) := by decide +kernel
theorem dX8_film_38 : decode cX8_film 38 = .ok (.aload_n 0, 1) := by decide +kernel
theorem dX8_film_39 : decode cX8_film 39 = .ok (.getfield 7, 3) := by decide +kernel
theorem dX8_film_42 : decode cX8_film 42 = .ok (.iconst 0, 1) := by decide +kernel
theorem dX8_film_43 : decode cX8_film 43 = .ok (.iaload, 1) := by decide +kernel
theorem dX8_film_44 : decode cX8_film 44 = .ok (.if_icmp .gt 33, 3) := by decide +kernel
theorem dX8_film_47 : decode cX8_film 47 = .ok (.aload_n 0, 1) := by decide +kernel
theorem dX8_film_48 : decode cX8_film 48 = .ok (.getfield 35, 3) := by decide +kernel
theorem dX8_film_51 : decode cX8_film 51 = .ok (.bipush 24, 2) := by decide +kernel
theorem dX8_film_53 : decode cX8_film 53 = .ok (.iload_n 1, 1) := by decide +kernel
theorem dX8_film_54 : decode cX8_film 54 = .ok (.imul, 1) := by decide +kernel
theorem dX8_film_55 : decode cX8_film 55 = .ok (.iload_n 3, 1) := by decide +kernel
theorem dX8_film_56 : decode cX8_film 56 = .ok (.iadd, 1) := by decide +kernel
theorem dX8_film_57 : decode cX8_film 57 = .ok (.iload 5, 2) := by decide +kernel
theorem dX8_film_59 : decode cX8_film 59 = .ok (.iadd, 1) := by decide +kernel
theorem dX8_film_60 : decode cX8_film 60 = .ok (.iconst 1, 1) := by decide +kernel
theorem dX8_film_61 : decode cX8_film 61 = .ok (.isub, 1) := by decide +kernel
theorem dX8_film_62 : decode cX8_film 62 = .ok (.aload_n 0, 1) := by decide +kernel
theorem dX8_film_63 : decode cX8_film 63 = .ok (.getfield 7, 3) := by decide +kernel
theorem dX8_film_66 : decode cX8_film 66 = .ok (.iload 5, 2) := by decide +kernel
theorem dX8_film_68 : decode cX8_film 68 = .ok (.iaload, 1) := by decide +kernel
theorem dX8_film_69 : decode cX8_film 69 = .ok (.i2l, 1) := by decide +kernel
theorem dX8_film_70 : decode cX8_film 70 = .ok (.lastore, 1) := by decide +kernel
theorem dX8_film_71 : decode cX8_film 71 = .ok (.iinc 5 1, 3) := by decide +kernel
theorem dX8_film_74 : decode cX8_film 74 = .ok (.goto (-38), 3) := by decide +kernel
theorem dX8_film_77 : decode cX8_film 77 = .ok (.aload_n 0, 1) := by decide +kernel
theorem dX8_film_78 : decode cX8_film 78 = .ok (.getfield 7, 3) := by decide +kernel
theorem dX8_film_81 : decode cX8_film 81 = .ok (.iconst 0, 1) := by decide +kernel
theorem dX8_film_82 : decode cX8_film 82 = .ok (.iaload, 1) := by decide +kernel
theorem dX8_film_83 : decode cX8_film 83 = .ok (.ireturn, 1) := by decide +kernel
theorem dX8_lowest_0 : decode cX8_lowest 0 = .ok (.iload_n 2, 1) := by decide +kernel
theorem dX8_lowest_1 : decode cX8_lowest 1 = .ok (.ifCond .ne 13, 3) := by decide +kernel
theorem dX8_lowest_4 : decode cX8_lowest 4 = .ok (.lload_n 0, 1) := by decide +kernel
theorem dX8_lowest_5 : decode cX8_lowest 5 = .ok (.bipush 56, 2) := by decide +kernel
theorem dX8_lowest_7 : decode cX8_lowest 7 = .ok (.lshl, 1) := by decide +kernel
theorem dX8_lowest_8 : decode cX8_lowest 8 = .ok (.bipush 56, 2) := by decide +kernel
theorem dX8_lowest_10 : decode cX8_lowest 10 = .ok (.lshr, 1) := by decide +kernel
theorem dX8_lowest_11 : decode cX8_lowest 11 = .ok (.goto 34, 3) := by decide +kernel
theorem dX8_lowest_14 : decode cX8_lowest 14 = .ok (.iload_n 2, 1) := by decide +kernel
theorem dX8_lowest_15 : decode cX8_lowest 15 = .ok (.iconst 1, 1) := by decide +kernel
theorem dX8_lowest_16 : decode cX8_lowest 16 = .ok (.if_icmp .ne 13, 3) := by decide +kernel
theorem dX8_lowest_19 : decode cX8_lowest 19 = .ok (.lload_n 0, 1) := by decide +kernel
theorem dX8_lowest_20 : decode cX8_lowest 20 = .ok (.bipush 48, 2) := by decide +kernel
theorem dX8_lowest_22 : decode cX8_lowest 22 = .ok (.lshl, 1) := by decide +kernel
theorem dX8_lowest_23 : decode cX8_lowest 23 = .ok (.bipush 48, 2) := by decide +kernel
theorem dX8_lowest_25 : decode cX8_lowest 25 = .ok (.lshr, 1) := by decide +kernel
theorem dX8_lowest_26 : decode cX8_lowest 26 = .ok (.goto 19, 3) := by decide +kernel
theorem dX8_lowest_29 : decode cX8_lowest 29 = .ok (.iload_n 2, 1) := by decide +kernel
theorem dX8_lowest_30 : decode cX8_lowest 30 = .ok (.iconst 2, 1) := by decide +kernel
theorem dX8_lowest_31 : decode cX8_lowest 31 = .ok (.if_icmp .ne 13, 3) := by decide +kernel
theorem dX8_lowest_34 : decode cX8_lowest 34 = .ok (.lload_n 0, 1) := by decide +kernel
theorem dX8_lowest_35 : decode cX8_lowest 35 = .ok (.bipush 32, 2) := by decide +kernel
theorem dX8_lowest_37 : decode cX8_lowest 37 = .ok (.lshl, 1) := by decide +kernel
theorem dX8_lowest_38 : decode cX8_lowest 38 = .ok (.bipush 32, 2) := by decide +kernel
theorem dX8_lowest_40 : decode cX8_lowest 40 = .ok (.lshr, 1) := by decide +kernel
theorem dX8_lowest_41 : decode cX8_lowest 41 = .ok (.goto 4, 3) := by decide +kernel
theorem dX8_lowest_44 : decode cX8_lowest 44 = .ok (.lload_n 0, 1) := by decide +kernel
theorem dX8_lowest_45 : decode cX8_lowest 45 = .ok (.lreturn, 1) := by decide +kernel
set_option maxRecDepth 20000 in
theorem ggX8_sheet_X8_isSheet : GoodIn wsX8_sheet wsX8_isSheet := goodIn_r _ [7, 8, 9, 10, 6, 11] (by decide +kernel) (by decide +kernel)
set_option maxRecDepth 20000 in
theorem gX8_sheet_X8_isSheet : GoodIn wsX8_sheet (va_wsS RX8 267 yX8_isSheet wsX8_isSheet) := goodIn_app (goodIn_of _ (by decide +kernel)) ggX8_sheet_X8_isSheet
theorem dX8_sheet_0 : decode cX8_sheet 0 = .ok (.iload_n 1, 1) := by decide +kernel
theorem dX8_sheet_1 : decode cX8_sheet 1 = .ok (.iload_n 2, 1) := by decide +kernel
theorem dX8_sheet_2 : decode cX8_sheet 2 = .ok (.invokestatic 267, 3) := by decide +kernel
theorem dX8_sheet_5 : decode cX8_sheet 5 = .ok (.ifCond .eq 9, 3) := by decide +kernel
theorem dX8_sheet_8 : decode cX8_sheet 8 = .ok (.iload_n 3, 1) := by decide +kernel
theorem dX8_sheet_9 : decode cX8_sheet 9 = .ok (.bipush 24, 2) := by decide +kernel
theorem dX8_sheet_11 : decode cX8_sheet 11 = .ok (.if_icmp .le 5, 3) := by decide +kernel
theorem dX8_sheet_14 : decode cX8_sheet 14 = .ok (.iconst (-1), 1) := by decide +kernel
theorem dX8_sheet_15 : decode cX8_sheet 15 = .ok (.ireturn, 1) := by decide +kernel
theorem dX8_sheet_16 : decode cX8_sheet 16 = .ok (.iload_n 3, 1) := by decide +kernel
theorem dX8_sheet_17 : decode cX8_sheet 17 = .ok (.ifCond .ge 6, 3) := by decide +kernel
theorem dX8_sheet_20 : decode cX8_sheet 20 = .ok (.bipush (-14), 2) := by decide +kernel
theorem dX8_sheet_22 : decode cX8_sheet 22 = .ok (.ireturn, 1) := by decide +kernel
theorem dX8_sheet_23 : decode cX8_sheet 23 = .ok (.aload_n 0, 1) := by decide +kernel
theorem dX8_sheet_24 : decode cX8_sheet 24 = .ok (.getfield 29, 3) := by decide +kernel
theorem dX8_sheet_27 : decode cX8_sheet 27 = .ok (.iload_n 1, 1) := by decide +kernel
theorem dX8_sheet_28 : decode cX8_sheet 28 = .ok (.iload_n 2, 1) := by decide +kernel
theorem dX8_sheet_29 : decode cX8_sheet 29 = .ok (.iastore, 1) := by decide +kernel
theorem dX8_sheet_30 : decode cX8_sheet 30 = .ok (.aload_n 0, 1) := by decide +kernel
theorem dX8_sheet_31 : decode cX8_sheet 31 = .ok (.getfield 32, 3) := by decide +kernel
theorem dX8_sheet_34 : decode cX8_sheet 34 = .ok (.iload_n 1, 1) := by decide +kernel
theorem dX8_sheet_35 : decode cX8_sheet 35 = .ok (.iload_n 3, 1) := by decide +kernel
theorem dX8_sheet_36 : decode cX8_sheet 36 = .ok (.iastore, 1) := by decide +kernel
theorem dX8_sheet_37 : decode cX8_sheet 37 = .ok (.iconst 0, 1) := by decide +kernel
theorem dX8_sheet_38 : decode cX8_sheet 38 = .ok (.istore 4, 2) := by decide +kernel
theorem dX8_sheet_40 : decode cX8_sheet 40 = .ok (.iload 4, 2) := by decide +kernel
theorem dX8_sheet_42 : decode cX8_sheet 42 = .ok (.iload_n 3, 1) := by decide +kernel
theorem dX8_sheet_43 : decode cX8_sheet 43 = .ok (.if_icmp .ge 22, 3) := by decide +kernel
theorem dX8_sheet_46 : decode cX8_sheet 46 = .ok (.aload_n 0, 1) := by decide +kernel
theorem dX8_sheet_47 : decode cX8_sheet 47 = .ok (.getfield 35, 3) := by decide +kernel
theorem dX8_sheet_50 : decode cX8_sheet 50 = .ok (.bipush 24, 2) := by decide +kernel
theorem dX8_sheet_52 : decode cX8_sheet 52 = .ok (.iload_n 1, 1) := by decide +kernel
theorem dX8_sheet_53 : decode cX8_sheet 53 = .ok (.imul, 1) := by decide +kernel
theorem dX8_sheet_54 : decode cX8_sheet 54 = .ok (.iload 4, 2) := by decide +kernel
theorem dX8_sheet_56 : decode cX8_sheet 56 = .ok (.iadd, 1) := by decide +kernel
theorem dX8_sheet_57 : decode cX8_sheet 57 = .ok (.lconst 0, 1) := by decide +kernel
theorem dX8_sheet_58 : decode cX8_sheet 58 = .ok (.lastore, 1) := by decide +kernel
theorem dX8_sheet_59 : decode cX8_sheet 59 = .ok (.iinc 4 1, 3) := by decide +kernel
theorem dX8_sheet_62 : decode cX8_sheet 62 = .ok (.goto (-22), 3) := by decide +kernel
theorem dX8_sheet_65 : decode cX8_sheet 65 = .ok (.iload_n 3, 1) := by decide +kernel
theorem dX8_sheet_66 : decode cX8_sheet 66 = .ok (.ireturn, 1) := by decide +kernel
set_option maxRecDepth 20000 in
theorem ggX8_drop_X8_in : GoodIn wsX8_drop wsX8_in := goodIn_r _ [7] (by decide +kernel) (by decide +kernel)
set_option maxRecDepth 20000 in
theorem gX8_drop_X8_in : GoodIn wsX8_drop (va_wsS RX8 106 yX8_in wsX8_in) := goodIn_app (goodIn_of _ (by decide +kernel)) ggX8_drop_X8_in
theorem dX8_drop_0 : decode cX8_drop 0 = .ok (.iload_n 1, 1) := by decide +kernel
theorem dX8_drop_1 : decode cX8_drop 1 = .ok (.i2l, 1) := by decide +kernel
theorem dX8_drop_2 : decode cX8_drop 2 = .ok (.lconst 0, 1) := by decide +kernel
theorem dX8_drop_3 : decode cX8_drop 3 = .ok (.ldc2_w 130, 3) := by decide +kernel
theorem dX8_drop_6 : decode cX8_drop 6 = .ok (.invokestatic 106, 3) := by decide +kernel
theorem dX8_drop_9 : decode cX8_drop 9 = .ok (.ifCond .ne 5, 3) := by decide +kernel
theorem dX8_drop_12 : decode cX8_drop 12 = .ok (.iconst (-1), 1) := by decide +kernel
theorem dX8_drop_13 : decode cX8_drop 13 = .ok (.ireturn, 1) := by decide +kernel
theorem dX8_drop_14 : decode cX8_drop 14 = .ok (.aload_n 0, 1) := by decide +kernel
theorem dX8_drop_15 : decode cX8_drop 15 = .ok (.getfield 29, 3) := by decide +kernel
theorem dX8_drop_18 : decode cX8_drop 18 = .ok (.iload_n 1, 1) := by decide +kernel
theorem dX8_drop_19 : decode cX8_drop 19 = .ok (.iaload, 1) := by decide +kernel
theorem dX8_drop_20 : decode cX8_drop 20 = .ok (.ifCond .ge 6, 3) := by decide +kernel
theorem dX8_drop_23 : decode cX8_drop 23 = .ok (.bipush (-11), 2) := by decide +kernel
theorem dX8_drop_25 : decode cX8_drop 25 = .ok (.ireturn, 1) := by decide +kernel
theorem dX8_drop_26 : decode cX8_drop 26 = .ok (.aload_n 0, 1) := by decide +kernel
theorem dX8_drop_27 : decode cX8_drop 27 = .ok (.getfield 29, 3) := by decide +kernel
theorem dX8_drop_30 : decode cX8_drop 30 = .ok (.iload_n 1, 1) := by decide +kernel
theorem dX8_drop_31 : decode cX8_drop 31 = .ok (.bipush (-4), 2) := by decide +kernel
theorem dX8_drop_33 : decode cX8_drop 33 = .ok (.iastore, 1) := by decide +kernel
theorem dX8_drop_34 : decode cX8_drop 34 = .ok (.aload_n 0, 1) := by decide +kernel
theorem dX8_drop_35 : decode cX8_drop 35 = .ok (.getfield 32, 3) := by decide +kernel
theorem dX8_drop_38 : decode cX8_drop 38 = .ok (.iload_n 1, 1) := by decide +kernel
theorem dX8_drop_39 : decode cX8_drop 39 = .ok (.iaload, 1) := by decide +kernel
theorem dX8_drop_40 : decode cX8_drop 40 = .ok (.ireturn, 1) := by decide +kernel
set_option maxRecDepth 20000 in
theorem ggX8_item_X8_isSheet : GoodIn wsX8_item wsX8_isSheet := goodIn_r _ [5, 6, 7, 8, 4, 9] (by decide +kernel) (by decide +kernel)
set_option maxRecDepth 20000 in
theorem gX8_item_X8_isSheet : GoodIn wsX8_item (va_wsS RX8 267 yX8_isSheet wsX8_isSheet) := goodIn_app (goodIn_of _ (by decide +kernel)) ggX8_item_X8_isSheet
set_option maxRecDepth 20000 in
theorem ggX8_item_X8_found : GoodIn wsX8_item wsX8_found := goodIn_r _ [13, 14, 15, 19, 20, 21, 22, 23, 24, 25, 26, 27, 28, 29, 30, 31, 32, 33, 34, 35, 36, 37, 38, 39, 40, 41, 42, 43, 44, 45, 46, 47, 48, 49, 50, 51] (by decide +kernel) (by decide +kernel)
set_option maxRecDepth 20000 in
theorem gX8_item_X8_found : GoodIn wsX8_item (wsV RX8 273 RX8 yX8_found wsX8_found) := goodIn_app (goodIn_of _ (by decide +kernel)) ggX8_item_X8_found
set_option maxRecDepth 20000 in
theorem ggX8_item_X8_lowest : GoodIn wsX8_item wsX8_lowest := goodIn_r _ [18] (by decide +kernel) (by decide +kernel)
set_option maxRecDepth 20000 in
theorem gX8_item_X8_lowest : GoodIn wsX8_item (va_wsS RX8 277 yX8_lowest wsX8_lowest) := goodIn_app (goodIn_of _ (by decide +kernel)) ggX8_item_X8_lowest
theorem dX8_item_0 : decode cX8_item 0 = .ok (.iload_n 1, 1) := by decide +kernel
theorem dX8_item_1 : decode cX8_item 1 = .ok (.iload_n 2, 1) := by decide +kernel
theorem dX8_item_2 : decode cX8_item 2 = .ok (.invokestatic 267, 3) := by decide +kernel
theorem dX8_item_5 : decode cX8_item 5 = .ok (.ifCond .ne 5, 3) := by decide +kernel
theorem dX8_item_8 : decode cX8_item 8 = .ok (.iconst (-1), 1) := by decide +kernel
theorem dX8_item_9 : decode cX8_item 9 = .ok (.ireturn, 1) := by decide +kernel
theorem dX8_item_10 : decode cX8_item 10 = .ok (.aload_n 0, 1) := by decide +kernel
theorem dX8_item_11 : decode cX8_item 11 = .ok (.iload_n 1, 1) := by decide +kernel
theorem dX8_item_12 : decode cX8_item 12 = .ok (.iload_n 2, 1) := by decide +kernel
theorem dX8_item_13 : decode cX8_item 13 = .ok (.iload_n 3, 1) := by decide +kernel
theorem dX8_item_14 : decode cX8_item 14 = .ok (.iconst 1, 1) := by decide +kernel
theorem dX8_item_15 : decode cX8_item 15 = .ok (.invokevirtual 273, 3) := by decide +kernel
theorem dX8_item_18 : decode cX8_item 18 = .ok (.istore 6, 2) := by decide +kernel
theorem dX8_item_20 : decode cX8_item 20 = .ok (.iload 6, 2) := by decide +kernel
theorem dX8_item_22 : decode cX8_item 22 = .ok (.ifCond .eq 6, 3) := by decide +kernel
theorem dX8_item_25 : decode cX8_item 25 = .ok (.iload 6, 2) := by decide +kernel
theorem dX8_item_27 : decode cX8_item 27 = .ok (.ireturn, 1) := by decide +kernel
theorem dX8_item_28 : decode cX8_item 28 = .ok (.aload_n 0, 1) := by decide +kernel
theorem dX8_item_29 : decode cX8_item 29 = .ok (.getfield 35, 3) := by decide +kernel
theorem dX8_item_32 : decode cX8_item 32 = .ok (.bipush 24, 2) := by decide +kernel
theorem dX8_item_34 : decode cX8_item 34 = .ok (.iload_n 1, 1) := by decide +kernel
theorem dX8_item_35 : decode cX8_item 35 = .ok (.imul, 1) := by decide +kernel
theorem dX8_item_36 : decode cX8_item 36 = .ok (.iload_n 3, 1) := by decide +kernel
theorem dX8_item_37 : decode cX8_item 37 = .ok (.iadd, 1) := by decide +kernel
theorem dX8_item_38 : decode cX8_item 38 = .ok (.lload 4, 2) := by decide +kernel
theorem dX8_item_40 : decode cX8_item 40 = .ok (.iload_n 2, 1) := by decide +kernel
theorem dX8_item_41 : decode cX8_item 41 = .ok (.invokestatic 277, 3) := by decide +kernel
theorem dX8_item_44 : decode cX8_item 44 = .ok (.lastore, 1) := by decide +kernel
theorem dX8_item_45 : decode cX8_item 45 = .ok (.iconst 1, 1) := by decide +kernel
theorem dX8_item_46 : decode cX8_item 46 = .ok (.ireturn, 1) := by decide +kernel
set_option maxRecDepth 20000 in
theorem ggX8_copy_X8_in : GoodIn wsX8_copy wsX8_in := goodIn_r _ [8] (by decide +kernel) (by decide +kernel)
set_option maxRecDepth 20000 in
theorem gX8_copy_X8_in : GoodIn wsX8_copy (va_wsS RX8 106 yX8_in wsX8_in) := goodIn_app (goodIn_of _ (by decide +kernel)) ggX8_copy_X8_in
theorem dX8_copy_0 : decode cX8_copy 0 = .ok (.iload_n 1, 1) := by decide +kernel
theorem dX8_copy_1 : decode cX8_copy 1 = .ok (.i2l, 1) := by decide +kernel
theorem dX8_copy_2 : decode cX8_copy 2 = .ok (.lconst 0, 1) := by decide +kernel
theorem dX8_copy_3 : decode cX8_copy 3 = .ok (.ldc2_w 130, 3) := by decide +kernel
theorem dX8_copy_6 : decode cX8_copy 6 = .ok (.invokestatic 106, 3) := by decide +kernel
theorem dX8_copy_9 : decode cX8_copy 9 = .ok (.ifCond .eq 15, 3) := by decide +kernel
theorem dX8_copy_12 : decode cX8_copy 12 = .ok (.iload_n 3, 1) := by decide +kernel
theorem dX8_copy_13 : decode cX8_copy 13 = .ok (.i2l, 1) := by decide +kernel
theorem dX8_copy_14 : decode cX8_copy 14 = .ok (.lconst 0, 1) := by decide +kernel
theorem dX8_copy_15 : decode cX8_copy 15 = .ok (.ldc2_w 130, 3) := by decide +kernel
theorem dX8_copy_18 : decode cX8_copy 18 = .ok (.invokestatic 106, 3) := by decide +kernel
theorem dX8_copy_21 : decode cX8_copy 21 = .ok (.ifCond .ne 5, 3) := by decide +kernel
theorem dX8_copy_24 : decode cX8_copy 24 = .ok (.iconst (-1), 1) := by decide +kernel
theorem dX8_copy_25 : decode cX8_copy 25 = .ok (.ireturn, 1) := by decide +kernel
theorem dX8_copy_26 : decode cX8_copy 26 = .ok (.aload_n 0, 1) := by decide +kernel
theorem dX8_copy_27 : decode cX8_copy 27 = .ok (.getfield 29, 3) := by decide +kernel
theorem dX8_copy_30 : decode cX8_copy 30 = .ok (.iload_n 1, 1) := by decide +kernel
theorem dX8_copy_31 : decode cX8_copy 31 = .ok (.iaload, 1) := by decide +kernel
theorem dX8_copy_32 : decode cX8_copy 32 = .ok (.ifCond .lt 12, 3) := by decide +kernel
theorem dX8_copy_35 : decode cX8_copy 35 = .ok (.aload_n 0, 1) := by decide +kernel
theorem dX8_copy_36 : decode cX8_copy 36 = .ok (.getfield 29, 3) := by decide +kernel
theorem dX8_copy_39 : decode cX8_copy 39 = .ok (.iload_n 3, 1) := by decide +kernel
theorem dX8_copy_40 : decode cX8_copy 40 = .ok (.iaload, 1) := by decide +kernel
theorem dX8_copy_41 : decode cX8_copy 41 = .ok (.ifCond .ge 6, 3) := by decide +kernel
theorem dX8_copy_44 : decode cX8_copy 44 = .ok (.bipush (-11), 2) := by decide +kernel
theorem dX8_copy_46 : decode cX8_copy 46 = .ok (.ireturn, 1) := by decide +kernel
theorem dX8_copy_47 : decode cX8_copy 47 = .ok (.aload_n 0, 1) := by decide +kernel
theorem dX8_copy_48 : decode cX8_copy 48 = .ok (.getfield 29, 3) := by decide +kernel
theorem dX8_copy_51 : decode cX8_copy 51 = .ok (.iload_n 1, 1) := by decide +kernel
theorem dX8_copy_52 : decode cX8_copy 52 = .ok (.iaload, 1) := by decide +kernel
theorem dX8_copy_53 : decode cX8_copy 53 = .ok (.aload_n 0, 1) := by decide +kernel
theorem dX8_copy_54 : decode cX8_copy 54 = .ok (.getfield 29, 3) := by decide +kernel
theorem dX8_copy_57 : decode cX8_copy 57 = .ok (.iload_n 3, 1) := by decide +kernel
theorem dX8_copy_58 : decode cX8_copy 58 = .ok (.iaload, 1) := by decide +kernel
theorem dX8_copy_59 : decode cX8_copy 59 = .ok (.if_icmp .eq 6, 3) := by decide +kernel
theorem dX8_copy_62 : decode cX8_copy 62 = .ok (.bipush (-12), 2) := by decide +kernel
theorem dX8_copy_64 : decode cX8_copy 64 = .ok (.ireturn, 1) := by decide +kernel
theorem dX8_copy_65 : decode cX8_copy 65 = .ok (.iload 5, 2) := by decide +kernel
theorem dX8_copy_67 : decode cX8_copy 67 = .ok (.ifCond .lt 46, 3) := by decide +kernel
theorem dX8_copy_70 : decode cX8_copy 70 = .ok (.iload 5, 2) := by decide +kernel
theorem dX8_copy_72 : decode cX8_copy 72 = .ok (.bipush 24, 2) := by decide +kernel
theorem dX8_copy_74 : decode cX8_copy 74 = .ok (.if_icmp .gt 39, 3) := by decide +kernel
theorem dX8_copy_77 : decode cX8_copy 77 = .ok (.iload_n 2, 1) := by decide +kernel
theorem dX8_copy_78 : decode cX8_copy 78 = .ok (.ifCond .lt 35, 3) := by decide +kernel
theorem dX8_copy_81 : decode cX8_copy 81 = .ok (.iload 4, 2) := by decide +kernel
theorem dX8_copy_83 : decode cX8_copy 83 = .ok (.ifCond .lt 30, 3) := by decide +kernel
theorem dX8_copy_86 : decode cX8_copy 86 = .ok (.iload_n 2, 1) := by decide +kernel
theorem dX8_copy_87 : decode cX8_copy 87 = .ok (.aload_n 0, 1) := by decide +kernel
theorem dX8_copy_88 : decode cX8_copy 88 = .ok (.getfield 32, 3) := by decide +kernel
theorem dX8_copy_91 : decode cX8_copy 91 = .ok (.iload_n 1, 1) := by decide +kernel
theorem dX8_copy_92 : decode cX8_copy 92 = .ok (.iaload, 1) := by decide +kernel
theorem dX8_copy_93 : decode cX8_copy 93 = .ok (.iload 5, 2) := by decide +kernel
theorem dX8_copy_95 : decode cX8_copy 95 = .ok (.isub, 1) := by decide +kernel
theorem dX8_copy_96 : decode cX8_copy 96 = .ok (.if_icmp .gt 17, 3) := by decide +kernel
theorem dX8_copy_99 : decode cX8_copy 99 = .ok (.iload 4, 2) := by decide +kernel
theorem dX8_copy_101 : decode cX8_copy 101 = .ok (.aload_n 0, 1) := by decide +kernel
theorem dX8_copy_102 : decode cX8_copy 102 = .ok (.getfield 32, 3) := by decide +kernel
theorem dX8_copy_105 : decode cX8_copy 105 = .ok (.iload_n 3, 1) := by decide +kernel
theorem dX8_copy_106 : decode cX8_copy 106 = .ok (.iaload, 1) := by decide +kernel
theorem dX8_copy_107 : decode cX8_copy 107 = .ok (.iload 5, 2) := by decide +kernel
theorem dX8_copy_109 : decode cX8_copy 109 = .ok (.isub, 1) := by decide +kernel
theorem dX8_copy_110 : decode cX8_copy 110 = .ok (.if_icmp .le 6, 3) := by decide +kernel
theorem dX8_copy_113 : decode cX8_copy 113 = .ok (.bipush (-13), 2) := by decide +kernel
theorem dX8_copy_115 : decode cX8_copy 115 = .ok (.ireturn, 1) := by decide +kernel
theorem dX8_copy_116 : decode cX8_copy 116 = .ok (.iload 4, 2) := by decide +kernel
theorem dX8_copy_118 : decode cX8_copy 118 = .ok (.iload_n 2, 1) := by decide +kernel
theorem dX8_copy_119 : decode cX8_copy 119 = .ok (.if_icmp .le 7, 3) := by decide +kernel
theorem dX8_copy_122 : decode cX8_copy 122 = .ok (.iconst 1, 1) := by decide +kernel
theorem dX8_copy_123 : decode cX8_copy 123 = .ok (.goto 4, 3) := by decide +kernel
theorem dX8_copy_126 : decode cX8_copy 126 = .ok (.iconst 0, 1) := by decide +kernel
theorem dX8_copy_127 : decode cX8_copy 127 = .ok (.istore 6, 2) := by decide +kernel
theorem dX8_copy_129 : decode cX8_copy 129 = .ok (.iconst 0, 1) := by decide +kernel
theorem dX8_copy_130 : decode cX8_copy 130 = .ok (.istore 7, 2) := by decide +kernel
theorem dX8_copy_132 : decode cX8_copy 132 = .ok (.iload 7, 2) := by decide +kernel
theorem dX8_copy_134 : decode cX8_copy 134 = .ok (.iload 5, 2) := by decide +kernel
theorem dX8_copy_136 : decode cX8_copy 136 = .ok (.if_icmp .ge 57, 3) := by decide +kernel
theorem dX8_copy_139 : decode cX8_copy 139 = .ok (.iload 6, 2) := by decide +kernel
theorem dX8_copy_141 : decode cX8_copy 141 = .ok (.ifCond .eq 13, 3) := by decide +kernel
theorem dX8_copy_144 : decode cX8_copy 144 = .ok (.iload 5, 2) := by decide +kernel
theorem dX8_copy_146 : decode cX8_copy 146 = .ok (.iconst 1, 1) := by decide +kernel
theorem dX8_copy_147 : decode cX8_copy 147 = .ok (.isub, 1) := by decide +kernel
theorem dX8_copy_148 : decode cX8_copy 148 = .ok (.iload 7, 2) := by decide +kernel
theorem dX8_copy_150 : decode cX8_copy 150 = .ok (.isub, 1) := by decide +kernel
theorem dX8_copy_151 : decode cX8_copy 151 = .ok (.goto 5, 3) := by decide +kernel
theorem dX8_copy_154 : decode cX8_copy 154 = .ok (.iload 7, 2) := by decide +kernel
theorem dX8_copy_156 : decode cX8_copy 156 = .ok (.istore 8, 2) := by decide +kernel
theorem dX8_copy_158 : decode cX8_copy 158 = .ok (.aload_n 0, 1) := by decide +kernel
theorem dX8_copy_159 : decode cX8_copy 159 = .ok (.getfield 35, 3) := by decide +kernel
theorem dX8_copy_162 : decode cX8_copy 162 = .ok (.bipush 24, 2) := by decide +kernel
theorem dX8_copy_164 : decode cX8_copy 164 = .ok (.iload_n 3, 1) := by decide +kernel
theorem dX8_copy_165 : decode cX8_copy 165 = .ok (.imul, 1) := by decide +kernel
theorem dX8_copy_166 : decode cX8_copy 166 = .ok (.iload 4, 2) := by decide +kernel
theorem dX8_copy_168 : decode cX8_copy 168 = .ok (.iadd, 1) := by decide +kernel
theorem dX8_copy_169 : decode cX8_copy 169 = .ok (.iload 8, 2) := by decide +kernel
theorem dX8_copy_171 : decode cX8_copy 171 = .ok (.iadd, 1) := by decide +kernel
theorem dX8_copy_172 : decode cX8_copy 172 = .ok (.aload_n 0, 1) := by decide +kernel
theorem dX8_copy_173 : decode cX8_copy 173 = .ok (.getfield 35, 3) := by decide +kernel
theorem dX8_copy_176 : decode cX8_copy 176 = .ok (.bipush 24, 2) := by decide +kernel
theorem dX8_copy_178 : decode cX8_copy 178 = .ok (.iload_n 1, 1) := by decide +kernel
theorem dX8_copy_179 : decode cX8_copy 179 = .ok (.imul, 1) := by decide +kernel
theorem dX8_copy_180 : decode cX8_copy 180 = .ok (.iload_n 2, 1) := by decide +kernel
theorem dX8_copy_181 : decode cX8_copy 181 = .ok (.iadd, 1) := by decide +kernel
theorem dX8_copy_182 : decode cX8_copy 182 = .ok (.iload 8, 2) := by decide +kernel
theorem dX8_copy_184 : decode cX8_copy 184 = .ok (.iadd, 1) := by decide +kernel
theorem dX8_copy_185 : decode cX8_copy 185 = .ok (.laload, 1) := by decide +kernel
theorem dX8_copy_186 : decode cX8_copy 186 = .ok (.lastore, 1) := by decide +kernel
theorem dX8_copy_187 : decode cX8_copy 187 = .ok (.iinc 7 1, 3) := by decide +kernel
theorem dX8_copy_190 : decode cX8_copy 190 = .ok (.goto (-58), 3) := by decide +kernel
theorem dX8_copy_193 : decode cX8_copy 193 = .ok (.iload 5, 2) := by decide +kernel
theorem dX8_copy_195 : decode cX8_copy 195 = .ok (.ireturn, 1) := by decide +kernel

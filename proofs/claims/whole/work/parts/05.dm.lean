theorem dX8_init_0 : decode cX8_init 0 = .ok (.aload_n 0, 1) := by decide +kernel
theorem dX8_init_1 : decode cX8_init 1 = .ok (.invokespecial 1, 3) := by decide +kernel
theorem dX8_init_4 : decode cX8_init 4 = .ok (.aload_n 0, 1) := by decide +kernel
theorem dX8_init_5 : decode cX8_init 5 = .ok (.bipush 18, 2) := by decide +kernel
theorem dX8_init_7 : decode cX8_init 7 = .ok (.newarray .int, 2) := by decide +kernel
theorem dX8_init_9 : decode cX8_init 9 = .ok (.putfield 7, 3) := by decide +kernel
theorem dX8_init_12 : decode cX8_init 12 = .ok (.aload_n 0, 1) := by decide +kernel
theorem dX8_init_13 : decode cX8_init 13 = .ok (.bipush 108, 2) := by decide +kernel
theorem dX8_init_15 : decode cX8_init 15 = .ok (.newarray .int, 2) := by decide +kernel
theorem dX8_init_17 : decode cX8_init 17 = .ok (.putfield 13, 3) := by decide +kernel
theorem dX8_init_20 : decode cX8_init 20 = .ok (.aload_n 0, 1) := by decide +kernel
theorem dX8_init_21 : decode cX8_init 21 = .ok (.bipush 18, 2) := by decide +kernel
theorem dX8_init_23 : decode cX8_init 23 = .ok (.newarray .int, 2) := by decide +kernel
theorem dX8_init_25 : decode cX8_init 25 = .ok (.putfield 16, 3) := by decide +kernel
theorem dX8_init_28 : decode cX8_init 28 = .ok (.aload_n 0, 1) := by decide +kernel
theorem dX8_init_29 : decode cX8_init 29 = .ok (.bipush 108, 2) := by decide +kernel
theorem dX8_init_31 : decode cX8_init 31 = .ok (.newarray .int, 2) := by decide +kernel
theorem dX8_init_33 : decode cX8_init 33 = .ok (.putfield 19, 3) := by decide +kernel
theorem dX8_init_36 : decode cX8_init 36 = .ok (.aload_n 0, 1) := by decide +kernel
theorem dX8_init_37 : decode cX8_init 37 = .ok (.iconst (-1), 1) := by decide +kernel
theorem dX8_init_38 : decode cX8_init 38 = .ok (.putfield 22, 3) := by decide +kernel
theorem dX8_init_41 : decode cX8_init 41 = .ok (.aload_n 0, 1) := by decide +kernel
theorem dX8_init_42 : decode cX8_init 42 = .ok (.bipush 60, 2) := by decide +kernel
theorem dX8_init_44 : decode cX8_init 44 = .ok (.newarray .int, 2) := by decide +kernel
theorem dX8_init_46 : decode cX8_init 46 = .ok (.putfield 26, 3) := by decide +kernel
theorem dX8_init_49 : decode cX8_init 49 = .ok (.aload_n 0, 1) := by decide +kernel
theorem dX8_init_50 : decode cX8_init 50 = .ok (.iconst 4, 1) := by decide +kernel
theorem dX8_init_51 : decode cX8_init 51 = .ok (.newarray .int, 2) := by decide +kernel
theorem dX8_init_53 : decode cX8_init 53 = .ok (.putfield 29, 3) := by decide +kernel
theorem dX8_init_56 : decode cX8_init 56 = .ok (.aload_n 0, 1) := by decide +kernel
theorem dX8_init_57 : decode cX8_init 57 = .ok (.iconst 4, 1) := by decide +kernel
theorem dX8_init_58 : decode cX8_init 58 = .ok (.newarray .int, 2) := by decide +kernel
theorem dX8_init_60 : decode cX8_init 60 = .ok (.putfield 32, 3) := by decide +kernel
theorem dX8_init_63 : decode cX8_init 63 = .ok (.aload_n 0, 1) := by decide +kernel
theorem dX8_init_64 : decode cX8_init 64 = .ok (.bipush 96, 2) := by decide +kernel
theorem dX8_init_66 : decode cX8_init 66 = .ok (.newarray .long, 2) := by decide +kernel
theorem dX8_init_68 : decode cX8_init 68 = .ok (.putfield 35, 3) := by decide +kernel
theorem dX8_init_71 : decode cX8_init 71 = .ok (.aload_n 0, 1) := by decide +kernel
theorem dX8_init_72 : decode cX8_init 72 = .ok (.bipush 9, 2) := by decide +kernel
theorem dX8_init_74 : decode cX8_init 74 = .ok (.newarray .int, 2) := by decide +kernel
theorem dX8_init_76 : decode cX8_init 76 = .ok (.putfield 39, 3) := by decide +kernel
theorem dX8_init_79 : decode cX8_init 79 = .ok (.aload_n 0, 1) := by decide +kernel
theorem dX8_init_80 : decode cX8_init 80 = .ok (.bipush 11, 2) := by decide +kernel
theorem dX8_init_82 : decode cX8_init 82 = .ok (.newarray .long, 2) := by decide +kernel
theorem dX8_init_84 : decode cX8_init 84 = .ok (.putfield 42, 3) := by decide +kernel
theorem dX8_init_87 : decode cX8_init 87 = .ok (.aload_n 0, 1) := by decide +kernel
theorem dX8_init_88 : decode cX8_init 88 = .ok (.bipush 9, 2) := by decide +kernel
theorem dX8_init_90 : decode cX8_init 90 = .ok (.newarray .long, 2) := by decide +kernel
theorem dX8_init_92 : decode cX8_init 92 = .ok (.putfield 45, 3) := by decide +kernel
theorem dX8_init_95 : decode cX8_init 95 = .ok (.aload_n 0, 1) := by decide +kernel
theorem dX8_init_96 : decode cX8_init 96 = .ok (.bipush 9, 2) := by decide +kernel
theorem dX8_init_98 : decode cX8_init 98 = .ok (.newarray .long, 2) := by decide +kernel
theorem dX8_init_100 : decode cX8_init 100 = .ok (.putfield 48, 3) := by decide +kernel
theorem dX8_init_103 : decode cX8_init 103 = .ok (.aload_n 0, 1) := by decide +kernel
theorem dX8_init_104 : decode cX8_init 104 = .ok (.bipush 9, 2) := by decide +kernel
theorem dX8_init_106 : decode cX8_init 106 = .ok (.newarray .long, 2) := by decide +kernel
theorem dX8_init_108 : decode cX8_init 108 = .ok (.putfield 51, 3) := by decide +kernel
theorem dX8_init_111 : decode cX8_init 111 = .ok (.aload_n 0, 1) := by decide +kernel
theorem dX8_init_112 : decode cX8_init 112 = .ok (.bipush 9, 2) := by decide +kernel
theorem dX8_init_114 : decode cX8_init 114 = .ok (.newarray .long, 2) := by decide +kernel
theorem dX8_init_116 : decode cX8_init 116 = .ok (.putfield 54, 3) := by decide +kernel
theorem dX8_init_119 : decode cX8_init 119 = .ok (.aload_n 0, 1) := by decide +kernel
theorem dX8_init_120 : decode cX8_init 120 = .ok (.bipush 81, 2) := by decide +kernel
theorem dX8_init_122 : decode cX8_init 122 = .ok (.newarray .long, 2) := by decide +kernel
theorem dX8_init_124 : decode cX8_init 124 = .ok (.putfield 57, 3) := by decide +kernel
theorem dX8_init_127 : decode cX8_init 127 = .ok (.aload_n 0, 1) := by decide +kernel
theorem dX8_init_128 : decode cX8_init 128 = .ok (.bipush 81, 2) := by decide +kernel
theorem dX8_init_130 : decode cX8_init 130 = .ok (.newarray .long, 2) := by decide +kernel
theorem dX8_init_132 : decode cX8_init 132 = .ok (.putfield 60, 3) := by decide +kernel
theorem dX8_init_135 : decode cX8_init 135 = .ok (.aload_n 0, 1) := by decide +kernel
theorem dX8_init_136 : decode cX8_init 136 = .ok (.bipush 81, 2) := by decide +kernel
theorem dX8_init_138 : decode cX8_init 138 = .ok (.newarray .long, 2) := by decide +kernel
theorem dX8_init_140 : decode cX8_init 140 = .ok (.putfield 63, 3) := by decide +kernel
theorem dX8_init_143 : decode cX8_init 143 = .ok (.aload_n 0, 1) := by decide +kernel
theorem dX8_init_144 : decode cX8_init 144 = .ok (.bipush 81, 2) := by decide +kernel
theorem dX8_init_146 : decode cX8_init 146 = .ok (.newarray .long, 2) := by decide +kernel
theorem dX8_init_148 : decode cX8_init 148 = .ok (.putfield 66, 3) := by decide +kernel
theorem dX8_init_151 : decode cX8_init 151 = .ok (.aload_n 0, 1) := by decide +kernel
theorem dX8_init_152 : decode cX8_init 152 = .ok (.bipush 9, 2) := by decide +kernel
theorem dX8_init_154 : decode cX8_init 154 = .ok (.newarray .int, 2) := by decide +kernel
theorem dX8_init_156 : decode cX8_init 156 = .ok (.putfield 69, 3) := by decide +kernel
theorem dX8_init_159 : decode cX8_init 159 = .ok (.aload_n 0, 1) := by decide +kernel
theorem dX8_init_160 : decode cX8_init 160 = .ok (.getfield 7, 3) := by decide +kernel
theorem dX8_init_163 : decode cX8_init 163 = .ok (.iconst 0, 1) := by decide +kernel
theorem dX8_init_164 : decode cX8_init 164 = .ok (.iconst 3, 1) := by decide +kernel
theorem dX8_init_165 : decode cX8_init 165 = .ok (.iastore, 1) := by decide +kernel
theorem dX8_init_166 : decode cX8_init 166 = .ok (.aload_n 0, 1) := by decide +kernel
theorem dX8_init_167 : decode cX8_init 167 = .ok (.getfield 7, 3) := by decide +kernel
theorem dX8_init_170 : decode cX8_init 170 = .ok (.iconst 1, 1) := by decide +kernel
theorem dX8_init_171 : decode cX8_init 171 = .ok (.iconst 1, 1) := by decide +kernel
theorem dX8_init_172 : decode cX8_init 172 = .ok (.iastore, 1) := by decide +kernel
theorem dX8_init_173 : decode cX8_init 173 = .ok (.aload_n 0, 1) := by decide +kernel
theorem dX8_init_174 : decode cX8_init 174 = .ok (.getfield 7, 3) := by decide +kernel
theorem dX8_init_177 : decode cX8_init 177 = .ok (.iconst 2, 1) := by decide +kernel
theorem dX8_init_178 : decode cX8_init 178 = .ok (.iconst 1, 1) := by decide +kernel
theorem dX8_init_179 : decode cX8_init 179 = .ok (.iastore, 1) := by decide +kernel
theorem dX8_init_180 : decode cX8_init 180 = .ok (.aload_n 0, 1) := by decide +kernel
theorem dX8_init_181 : decode cX8_init 181 = .ok (.getfield 7, 3) := by decide +kernel
theorem dX8_init_184 : decode cX8_init 184 = .ok (.iconst 3, 1) := by decide +kernel
theorem dX8_init_185 : decode cX8_init 185 = .ok (.iconst 1, 1) := by decide +kernel
theorem dX8_init_186 : decode cX8_init 186 = .ok (.iastore, 1) := by decide +kernel
theorem dX8_init_187 : decode cX8_init 187 = .ok (.aload_n 0, 1) := by decide +kernel
theorem dX8_init_188 : decode cX8_init 188 = .ok (.getfield 7, 3) := by decide +kernel
theorem dX8_init_191 : decode cX8_init 191 = .ok (.bipush 9, 2) := by decide +kernel
theorem dX8_init_193 : decode cX8_init 193 = .ok (.bipush 10, 2) := by decide +kernel
theorem dX8_init_195 : decode cX8_init 195 = .ok (.iastore, 1) := by decide +kernel
theorem dX8_init_196 : decode cX8_init 196 = .ok (.aload_n 0, 1) := by decide +kernel
theorem dX8_init_197 : decode cX8_init 197 = .ok (.getfield 7, 3) := by decide +kernel
theorem dX8_init_200 : decode cX8_init 200 = .ok (.bipush 10, 2) := by decide +kernel
theorem dX8_init_202 : decode cX8_init 202 = .ok (.iconst 4, 1) := by decide +kernel
theorem dX8_init_203 : decode cX8_init 203 = .ok (.iastore, 1) := by decide +kernel
theorem dX8_init_204 : decode cX8_init 204 = .ok (.aload_n 0, 1) := by decide +kernel
theorem dX8_init_205 : decode cX8_init 205 = .ok (.getfield 7, 3) := by decide +kernel
theorem dX8_init_208 : decode cX8_init 208 = .ok (.bipush 11, 2) := by decide +kernel
theorem dX8_init_210 : decode cX8_init 210 = .ok (.bipush 8, 2) := by decide +kernel
theorem dX8_init_212 : decode cX8_init 212 = .ok (.iastore, 1) := by decide +kernel
theorem dX8_init_213 : decode cX8_init 213 = .ok (.aload_n 0, 1) := by decide +kernel
theorem dX8_init_214 : decode cX8_init 214 = .ok (.getfield 7, 3) := by decide +kernel
theorem dX8_init_217 : decode cX8_init 217 = .ok (.bipush 12, 2) := by decide +kernel
theorem dX8_init_219 : decode cX8_init 219 = .ok (.iconst 1, 1) := by decide +kernel
theorem dX8_init_220 : decode cX8_init 220 = .ok (.iastore, 1) := by decide +kernel
theorem dX8_init_221 : decode cX8_init 221 = .ok (.iconst 0, 1) := by decide +kernel
theorem dX8_init_222 : decode cX8_init 222 = .ok (.istore_n 1, 1) := by decide +kernel
theorem dX8_init_223 : decode cX8_init 223 = .ok (.iload_n 1, 1) := by decide +kernel
theorem dX8_init_224 : decode cX8_init 224 = .ok (.iconst 4, 1) := by decide +kernel
theorem dX8_init_225 : decode cX8_init 225 = .ok (.if_icmp .ge 17, 3) := by decide +kernel
theorem dX8_init_228 : decode cX8_init 228 = .ok (.aload_n 0, 1) := by decide +kernel
theorem dX8_init_229 : decode cX8_init 229 = .ok (.getfield 29, 3) := by decide +kernel
theorem dX8_init_232 : decode cX8_init 232 = .ok (.iload_n 1, 1) := by decide +kernel
theorem dX8_init_233 : decode cX8_init 233 = .ok (.bipush (-4), 2) := by decide +kernel
theorem dX8_init_235 : decode cX8_init 235 = .ok (.iastore, 1) := by decide +kernel
theorem dX8_init_236 : decode cX8_init 236 = .ok (.iinc 1 1, 3) := by decide +kernel
theorem dX8_init_239 : decode cX8_init 239 = .ok (.goto (-16), 3) := by decide +kernel
theorem dX8_init_242 : decode cX8_init 242 = .ok (.return_, 1) := by decide +kernel
theorem dX8_in_0 : decode cX8_in 0 = .ok (.lload_n 0, 1) := by decide +kernel
theorem dX8_in_1 : decode cX8_in 1 = .ok (.lload_n 2, 1) := by decide +kernel
theorem dX8_in_2 : decode cX8_in 2 = .ok (.lcmp, 1) := by decide +kernel
theorem dX8_in_3 : decode cX8_in 3 = .ok (.ifCond .lt 14, 3) := by decide +kernel
theorem dX8_in_6 : decode cX8_in 6 = .ok (.lload_n 0, 1) := by decide +kernel
theorem dX8_in_7 : decode cX8_in 7 = .ok (.lload 4, 2) := by decide +kernel
theorem dX8_in_9 : decode cX8_in 9 = .ok (.lcmp, 1) := by decide +kernel
theorem dX8_in_10 : decode cX8_in 10 = .ok (.ifCond .gt 7, 3) := by decide +kernel
theorem dX8_in_13 : decode cX8_in 13 = .ok (.iconst 1, 1) := by decide +kernel
theorem dX8_in_14 : decode cX8_in 14 = .ok (.goto 4, 3) := by decide +kernel
theorem dX8_in_17 : decode cX8_in 17 = .ok (.iconst 0, 1) := by decide +kernel
theorem dX8_in_18 : decode cX8_in 18 = .ok (.ireturn, 1) := by decide +kernel
theorem dX8_bring_0 : decode cX8_bring 0 = .ok (.iconst 0, 1) := by decide +kernel
theorem dX8_bring_1 : decode cX8_bring 1 = .ok (.istore 5, 2) := by decide +kernel
theorem dX8_bring_3 : decode cX8_bring 3 = .ok (.iload 5, 2) := by decide +kernel
theorem dX8_bring_5 : decode cX8_bring 5 = .ok (.iload 4, 2) := by decide +kernel
theorem dX8_bring_7 : decode cX8_bring 7 = .ok (.if_icmp .ge 21, 3) := by decide +kernel
theorem dX8_bring_10 : decode cX8_bring 10 = .ok (.aload_n 2, 1) := by decide +kernel
theorem dX8_bring_11 : decode cX8_bring 11 = .ok (.iload_n 3, 1) := by decide +kernel
theorem dX8_bring_12 : decode cX8_bring 12 = .ok (.iload 5, 2) := by decide +kernel
theorem dX8_bring_14 : decode cX8_bring 14 = .ok (.iadd, 1) := by decide +kernel
theorem dX8_bring_15 : decode cX8_bring 15 = .ok (.aload_n 0, 1) := by decide +kernel
theorem dX8_bring_16 : decode cX8_bring 16 = .ok (.iload_n 1, 1) := by decide +kernel
theorem dX8_bring_17 : decode cX8_bring 17 = .ok (.iload 5, 2) := by decide +kernel
theorem dX8_bring_19 : decode cX8_bring 19 = .ok (.iadd, 1) := by decide +kernel
theorem dX8_bring_20 : decode cX8_bring 20 = .ok (.iaload, 1) := by decide +kernel
theorem dX8_bring_21 : decode cX8_bring 21 = .ok (.iastore, 1) := by decide +kernel
theorem dX8_bring_22 : decode cX8_bring 22 = .ok (.iinc 5 1, 3) := by decide +kernel
theorem dX8_bring_25 : decode cX8_bring 25 = .ok (.goto (-22), 3) := by decide +kernel
theorem dX8_bring_28 : decode cX8_bring 28 = .ok (.return_, 1) := by decide +kernel
set_option maxRecDepth 20000 in
theorem ggX8_notes_X8_bring : GoodIn wsX8_notes wsX8_bring := goodIn_r _ [7] (by decide +kernel) (by decide +kernel)
set_option maxRecDepth 20000 in
theorem gX8_notes_X8_bring : GoodIn wsX8_notes (va_wsS RX8 75 yX8_bring wsX8_bring) := goodIn_app (goodIn_of _ (by decide +kernel)) ggX8_notes_X8_bring
theorem dX8_notes_0 : decode cX8_notes 0 = .ok (.aload_n 0, 1) := by decide +kernel
theorem dX8_notes_1 : decode cX8_notes 1 = .ok (.getfield 72, 3) := by decide +kernel
theorem dX8_notes_4 : decode cX8_notes 4 = .ok (.bipush 6, 2) := by decide +kernel
theorem dX8_notes_6 : decode cX8_notes 6 = .ok (.if_icmp .ne 29, 3) := by decide +kernel
theorem dX8_notes_9 : decode cX8_notes 9 = .ok (.aload_n 0, 1) := by decide +kernel
theorem dX8_notes_10 : decode cX8_notes 10 = .ok (.getfield 13, 3) := by decide +kernel
theorem dX8_notes_13 : decode cX8_notes 13 = .ok (.bipush 18, 2) := by decide +kernel
theorem dX8_notes_15 : decode cX8_notes 15 = .ok (.aload_n 0, 1) := by decide +kernel
theorem dX8_notes_16 : decode cX8_notes 16 = .ok (.getfield 13, 3) := by decide +kernel
theorem dX8_notes_19 : decode cX8_notes 19 = .ok (.iconst 0, 1) := by decide +kernel
theorem dX8_notes_20 : decode cX8_notes 20 = .ok (.bipush 90, 2) := by decide +kernel
theorem dX8_notes_22 : decode cX8_notes 22 = .ok (.invokestatic 75, 3) := by decide +kernel
theorem dX8_notes_25 : decode cX8_notes 25 = .ok (.aload_n 0, 1) := by decide +kernel
theorem dX8_notes_26 : decode cX8_notes 26 = .ok (.dup, 1) := by decide +kernel
theorem dX8_notes_27 : decode cX8_notes 27 = .ok (.getfield 72, 3) := by decide +kernel
theorem dX8_notes_30 : decode cX8_notes 30 = .ok (.iconst 1, 1) := by decide +kernel
theorem dX8_notes_31 : decode cX8_notes 31 = .ok (.isub, 1) := by decide +kernel
theorem dX8_notes_32 : decode cX8_notes 32 = .ok (.putfield 72, 3) := by decide +kernel
theorem dX8_notes_35 : decode cX8_notes 35 = .ok (.aload_n 0, 1) := by decide +kernel
theorem dX8_notes_36 : decode cX8_notes 36 = .ok (.getfield 7, 3) := by decide +kernel
theorem dX8_notes_39 : decode cX8_notes 39 = .ok (.iconst 0, 1) := by decide +kernel
theorem dX8_notes_40 : decode cX8_notes 40 = .ok (.aload_n 0, 1) := by decide +kernel
theorem dX8_notes_41 : decode cX8_notes 41 = .ok (.getfield 13, 3) := by decide +kernel
theorem dX8_notes_44 : decode cX8_notes 44 = .ok (.bipush 18, 2) := by decide +kernel
theorem dX8_notes_46 : decode cX8_notes 46 = .ok (.aload_n 0, 1) := by decide +kernel
theorem dX8_notes_47 : decode cX8_notes 47 = .ok (.getfield 72, 3) := by decide +kernel
theorem dX8_notes_50 : decode cX8_notes 50 = .ok (.imul, 1) := by decide +kernel
theorem dX8_notes_51 : decode cX8_notes 51 = .ok (.bipush 18, 2) := by decide +kernel
theorem dX8_notes_53 : decode cX8_notes 53 = .ok (.invokestatic 75, 3) := by decide +kernel
theorem dX8_notes_56 : decode cX8_notes 56 = .ok (.aload_n 0, 1) := by decide +kernel
theorem dX8_notes_57 : decode cX8_notes 57 = .ok (.dup, 1) := by decide +kernel
theorem dX8_notes_58 : decode cX8_notes 58 = .ok (.getfield 72, 3) := by decide +kernel
theorem dX8_notes_61 : decode cX8_notes 61 = .ok (.iconst 1, 1) := by decide +kernel
theorem dX8_notes_62 : decode cX8_notes 62 = .ok (.iadd, 1) := by decide +kernel
theorem dX8_notes_63 : decode cX8_notes 63 = .ok (.putfield 72, 3) := by decide +kernel
theorem dX8_notes_66 : decode cX8_notes 66 = .ok (.return_, 1) := by decide +kernel
theorem dX8_divisor_0 : decode cX8_divisor 0 = .ok (.lload_n 0, 1) := by decide +kernel
theorem dX8_divisor_1 : decode cX8_divisor 1 = .ok (.lstore 4, 2) := by decide +kernel
theorem dX8_divisor_3 : decode cX8_divisor 3 = .ok (.lload_n 2, 1) := by decide +kernel
theorem dX8_divisor_4 : decode cX8_divisor 4 = .ok (.lstore 6, 2) := by decide +kernel
theorem dX8_divisor_6 : decode cX8_divisor 6 = .ok (.lload 6, 2) := by decide +kernel
theorem dX8_divisor_8 : decode cX8_divisor 8 = .ok (.lconst 0, 1) := by decide +kernel
theorem dX8_divisor_9 : decode cX8_divisor 9 = .ok (.lcmp, 1) := by decide +kernel
theorem dX8_divisor_10 : decode cX8_divisor 10 = .ok (.ifCond .eq 21, 3) := by decide +kernel
theorem dX8_divisor_13 : decode cX8_divisor 13 = .ok (.lload 4, 2) := by decide +kernel
theorem dX8_divisor_15 : decode cX8_divisor 15 = .ok (.lload 6, 2) := by decide +kernel
theorem dX8_divisor_17 : decode cX8_divisor 17 = .ok (.lrem, 1) := by decide +kernel
theorem dX8_divisor_18 : decode cX8_divisor 18 = .ok (.lstore 8, 2) := by decide +kernel
theorem dX8_divisor_20 : decode cX8_divisor 20 = .ok (.lload 6, 2) := by decide +kernel
theorem dX8_divisor_22 : decode cX8_divisor 22 = .ok (.lstore 4, 2) := by decide +kernel
theorem dX8_divisor_24 : decode cX8_divisor 24 = .ok (.lload 8, 2) := by decide +kernel
theorem dX8_divisor_26 : decode cX8_divisor 26 = .ok (.lstore 6, 2) := by decide +kernel
theorem dX8_divisor_28 : decode cX8_divisor 28 = .ok (.goto (-22), 3) := by decide +kernel
theorem dX8_divisor_31 : decode cX8_divisor 31 = .ok (.lload 4, 2) := by decide +kernel
theorem dX8_divisor_33 : decode cX8_divisor 33 = .ok (.lreturn, 1) := by decide +kernel
set_option maxRecDepth 20000 in
theorem ggX8_becomes_X8_divisor : GoodIn wsX8_becomes wsX8_divisor := goodIn_r _ [6] (by decide +kernel) (by decide +kernel)
set_option maxRecDepth 20000 in
theorem gX8_becomes_X8_divisor : GoodIn wsX8_becomes (va_wsS RX8 79 yX8_divisor wsX8_divisor) := goodIn_app (goodIn_of _ (by decide +kernel)) ggX8_becomes_X8_divisor
theorem dX8_becomes_0 : decode cX8_becomes 0 = .ok (.lload_n 1, 1) := by decide +kernel
theorem dX8_becomes_1 : decode cX8_becomes 1 = .ok (.lload_n 3, 1) := by decide +kernel
theorem dX8_becomes_2 : decode cX8_becomes 2 = .ok (.invokestatic 79, 3) := by decide +kernel
theorem dX8_becomes_5 : decode cX8_becomes 5 = .ok (.lstore 5, 2) := by decide +kernel
theorem dX8_becomes_7 : decode cX8_becomes 7 = .ok (.aload_n 0, 1) := by decide +kernel
theorem dX8_becomes_8 : decode cX8_becomes 8 = .ok (.lload_n 1, 1) := by decide +kernel
theorem dX8_becomes_9 : decode cX8_becomes 9 = .ok (.lload 5, 2) := by decide +kernel
theorem dX8_becomes_11 : decode cX8_becomes 11 = .ok (.ldiv, 1) := by decide +kernel
theorem dX8_becomes_12 : decode cX8_becomes 12 = .ok (.putfield 83, 3) := by decide +kernel
theorem dX8_becomes_15 : decode cX8_becomes 15 = .ok (.aload_n 0, 1) := by decide +kernel
theorem dX8_becomes_16 : decode cX8_becomes 16 = .ok (.lload_n 3, 1) := by decide +kernel
theorem dX8_becomes_17 : decode cX8_becomes 17 = .ok (.lload 5, 2) := by decide +kernel
theorem dX8_becomes_19 : decode cX8_becomes 19 = .ok (.ldiv, 1) := by decide +kernel
theorem dX8_becomes_20 : decode cX8_becomes 20 = .ok (.putfield 87, 3) := by decide +kernel
theorem dX8_becomes_23 : decode cX8_becomes 23 = .ok (.return_, 1) := by decide +kernel
set_option maxRecDepth 20000 in
theorem ggX8_multiplies_X8_divisor : GoodIn wsX8_multiplies wsX8_divisor := goodIn_r _ [4] (by decide +kernel) (by decide +kernel)
set_option maxRecDepth 20000 in
theorem gX8_multiplies_X8_divisor : GoodIn wsX8_multiplies (va_wsS RX8 79 yX8_divisor wsX8_divisor) := goodIn_app (goodIn_of _ (by decide +kernel)) ggX8_multiplies_X8_divisor
set_option maxRecDepth 20000 in
theorem ggX8_multiplies_X8_becomes : GoodIn wsX8_multiplies wsX8_becomes := goodIn_r _ [8, 9, 10, 1, 2, 3, 4, 11, 12, 13, 14, 15, 16, 17, 18, 19, 20, 21, 22, 23, 24, 25, 26, 27, 28, 29, 30, 31, 32, 33, 34, 35, 36, 37, 38, 39, 40, 41, 42, 43] (by decide +kernel) (by decide +kernel)
set_option maxRecDepth 20000 in
theorem gX8_multiplies_X8_becomes : GoodIn wsX8_multiplies (wsV RX8 90 RX8 yX8_becomes wsX8_becomes) := goodIn_app (goodIn_of _ (by decide +kernel)) ggX8_multiplies_X8_becomes
theorem dX8_multiplies_0 : decode cX8_multiplies 0 = .ok (.lload_n 1, 1) := by decide +kernel
theorem dX8_multiplies_1 : decode cX8_multiplies 1 = .ok (.lload 7, 2) := by decide +kernel
theorem dX8_multiplies_3 : decode cX8_multiplies 3 = .ok (.invokestatic 79, 3) := by decide +kernel
theorem dX8_multiplies_6 : decode cX8_multiplies 6 = .ok (.lstore 9, 2) := by decide +kernel
theorem dX8_multiplies_8 : decode cX8_multiplies 8 = .ok (.lload 5, 2) := by decide +kernel
theorem dX8_multiplies_10 : decode cX8_multiplies 10 = .ok (.lload_n 3, 1) := by decide +kernel
theorem dX8_multiplies_11 : decode cX8_multiplies 11 = .ok (.invokestatic 79, 3) := by decide +kernel
theorem dX8_multiplies_14 : decode cX8_multiplies 14 = .ok (.lstore 11, 2) := by decide +kernel
theorem dX8_multiplies_16 : decode cX8_multiplies 16 = .ok (.aload_n 0, 1) := by decide +kernel
theorem dX8_multiplies_17 : decode cX8_multiplies 17 = .ok (.lload_n 1, 1) := by decide +kernel
theorem dX8_multiplies_18 : decode cX8_multiplies 18 = .ok (.lload 9, 2) := by decide +kernel
theorem dX8_multiplies_20 : decode cX8_multiplies 20 = .ok (.ldiv, 1) := by decide +kernel
theorem dX8_multiplies_21 : decode cX8_multiplies 21 = .ok (.lload 5, 2) := by decide +kernel
theorem dX8_multiplies_23 : decode cX8_multiplies 23 = .ok (.lload 11, 2) := by decide +kernel
theorem dX8_multiplies_25 : decode cX8_multiplies 25 = .ok (.ldiv, 1) := by decide +kernel
theorem dX8_multiplies_26 : decode cX8_multiplies 26 = .ok (.lmul, 1) := by decide +kernel
theorem dX8_multiplies_27 : decode cX8_multiplies 27 = .ok (.lload_n 3, 1) := by decide +kernel
theorem dX8_multiplies_28 : decode cX8_multiplies 28 = .ok (.lload 11, 2) := by decide +kernel
theorem dX8_multiplies_30 : decode cX8_multiplies 30 = .ok (.ldiv, 1) := by decide +kernel
theorem dX8_multiplies_31 : decode cX8_multiplies 31 = .ok (.lload 7, 2) := by decide +kernel
theorem dX8_multiplies_33 : decode cX8_multiplies 33 = .ok (.lload 9, 2) := by decide +kernel
theorem dX8_multiplies_35 : decode cX8_multiplies 35 = .ok (.ldiv, 1) := by decide +kernel
theorem dX8_multiplies_36 : decode cX8_multiplies 36 = .ok (.lmul, 1) := by decide +kernel
theorem dX8_multiplies_37 : decode cX8_multiplies 37 = .ok (.invokevirtual 90, 3) := by decide +kernel
theorem dX8_multiplies_40 : decode cX8_multiplies 40 = .ok (.return_, 1) := by decide +kernel
set_option maxRecDepth 20000 in
theorem ggX8_adds_X8_divisor : GoodIn wsX8_adds wsX8_divisor := goodIn_r _ [4] (by decide +kernel) (by decide +kernel)
set_option maxRecDepth 20000 in
theorem gX8_adds_X8_divisor : GoodIn wsX8_adds (va_wsS RX8 79 yX8_divisor wsX8_divisor) := goodIn_app (goodIn_of _ (by decide +kernel)) ggX8_adds_X8_divisor
set_option maxRecDepth 20000 in
theorem ggX8_adds_X8_becomes : GoodIn wsX8_adds wsX8_becomes := goodIn_r _ [8, 9, 10, 1, 2, 3, 4, 11, 12, 13, 14, 15, 16, 17, 18, 19, 20, 21, 22, 23, 24, 25, 26, 27, 28, 29, 30, 31, 32, 33, 34, 35, 36, 37, 38, 39, 40, 41, 42, 43] (by decide +kernel) (by decide +kernel)
set_option maxRecDepth 20000 in
theorem gX8_adds_X8_becomes : GoodIn wsX8_adds (wsV RX8 90 RX8 yX8_becomes wsX8_becomes) := goodIn_app (goodIn_of _ (by decide +kernel)) ggX8_adds_X8_becomes
theorem dX8_adds_0 : decode cX8_adds 0 = .ok (.lload_n 3, 1) := by decide +kernel
theorem dX8_adds_1 : decode cX8_adds 1 = .ok (.lload 7, 2) := by decide +kernel
theorem dX8_adds_3 : decode cX8_adds 3 = .ok (.invokestatic 79, 3) := by decide +kernel
theorem dX8_adds_6 : decode cX8_adds 6 = .ok (.lstore 9, 2) := by decide +kernel
theorem dX8_adds_8 : decode cX8_adds 8 = .ok (.aload_n 0, 1) := by decide +kernel
theorem dX8_adds_9 : decode cX8_adds 9 = .ok (.lload_n 1, 1) := by decide +kernel
theorem dX8_adds_10 : decode cX8_adds 10 = .ok (.lload 7, 2) := by decide +kernel
theorem dX8_adds_12 : decode cX8_adds 12 = .ok (.lload 9, 2) := by decide +kernel
theorem dX8_adds_14 : decode cX8_adds 14 = .ok (.ldiv, 1) := by decide +kernel
theorem dX8_adds_15 : decode cX8_adds 15 = .ok (.lmul, 1) := by decide +kernel
theorem dX8_adds_16 : decode cX8_adds 16 = .ok (.lload 5, 2) := by decide +kernel
theorem dX8_adds_18 : decode cX8_adds 18 = .ok (.lload_n 3, 1) := by decide +kernel
theorem dX8_adds_19 : decode cX8_adds 19 = .ok (.lload 9, 2) := by decide +kernel
theorem dX8_adds_21 : decode cX8_adds 21 = .ok (.ldiv, 1) := by decide +kernel
theorem dX8_adds_22 : decode cX8_adds 22 = .ok (.lmul, 1) := by decide +kernel
theorem dX8_adds_23 : decode cX8_adds 23 = .ok (.ladd, 1) := by decide +kernel
theorem dX8_adds_24 : decode cX8_adds 24 = .ok (.lload_n 3, 1) := by decide +kernel
theorem dX8_adds_25 : decode cX8_adds 25 = .ok (.lload 9, 2) := by decide +kernel
theorem dX8_adds_27 : decode cX8_adds 27 = .ok (.ldiv, 1) := by decide +kernel
theorem dX8_adds_28 : decode cX8_adds 28 = .ok (.lload 7, 2) := by decide +kernel
theorem dX8_adds_30 : decode cX8_adds 30 = .ok (.lmul, 1) := by decide +kernel
theorem dX8_adds_31 : decode cX8_adds 31 = .ok (.invokevirtual 90, 3) := by decide +kernel
theorem dX8_adds_34 : decode cX8_adds 34 = .ok (.return_, 1) := by decide +kernel
theorem dX8_isLess_0 : decode cX8_isLess 0 = .ok (.lload_n 0, 1) := by decide +kernel
theorem dX8_isLess_1 : decode cX8_isLess 1 = .ok (.lstore 8, 2) := by decide +kernel
theorem dX8_isLess_3 : decode cX8_isLess 3 = .ok (.lload_n 2, 1) := by decide +kernel
theorem dX8_isLess_4 : decode cX8_isLess 4 = .ok (.lstore 10, 2) := by decide +kernel
theorem dX8_isLess_6 : decode cX8_isLess 6 = .ok (.lload 4, 2) := by decide +kernel
theorem dX8_isLess_8 : decode cX8_isLess 8 = .ok (.lstore 12, 2) := by decide +kernel
theorem dX8_isLess_10 : decode cX8_isLess 10 = .ok (.lload 6, 2) := by decide +kernel
theorem dX8_isLess_12 : decode cX8_isLess 12 = .ok (.lstore 14, 2) := by decide +kernel
theorem dX8_isLess_14 : decode cX8_isLess 14 = .ok (.lload 8, 2) := by decide +kernel
theorem dX8_isLess_16 : decode cX8_isLess 16 = .ok (.lload 10, 2) := by decide +kernel
theorem dX8_isLess_18 : decode cX8_isLess 18 = .ok (.ldiv, 1) := by decide +kernel
theorem dX8_isLess_19 : decode cX8_isLess 19 = .ok (.lload 12, 2) := by decide +kernel
theorem dX8_isLess_21 : decode cX8_isLess 21 = .ok (.lload 14, 2) := by decide +kernel
theorem dX8_isLess_23 : decode cX8_isLess 23 = .ok (.ldiv, 1) := by decide +kernel
theorem dX8_isLess_24 : decode cX8_isLess 24 = .ok (.lcmp, 1) := by decide +kernel
theorem dX8_isLess_25 : decode cX8_isLess 25 = .ok (.ifCond .eq 23, 3) := by decide +kernel
theorem dX8_isLess_28 : decode cX8_isLess 28 = .ok (.lload 8, 2) := by decide +kernel
theorem dX8_isLess_30 : decode cX8_isLess 30 = .ok (.lload 10, 2) := by decide +kernel
theorem dX8_isLess_32 : decode cX8_isLess 32 = .ok (.ldiv, 1) := by decide +kernel
theorem dX8_isLess_33 : decode cX8_isLess 33 = .ok (.lload 12, 2) := by decide +kernel
theorem dX8_isLess_35 : decode cX8_isLess 35 = .ok (.lload 14, 2) := by decide +kernel
theorem dX8_isLess_37 : decode cX8_isLess 37 = .ok (.ldiv, 1) := by decide +kernel
theorem dX8_isLess_38 : decode cX8_isLess 38 = .ok (.lcmp, 1) := by decide +kernel
theorem dX8_isLess_39 : decode cX8_isLess 39 = .ok (.ifCond .ge 7, 3) := by decide +kernel
theorem dX8_isLess_42 : decode cX8_isLess 42 = .ok (.iconst 1, 1) := by decide +kernel
theorem dX8_isLess_43 : decode cX8_isLess 43 = .ok (.goto 4, 3) := by decide +kernel
theorem dX8_isLess_46 : decode cX8_isLess 46 = .ok (.iconst 0, 1) := by decide +kernel
theorem dX8_isLess_47 : decode cX8_isLess 47 = .ok (.ireturn, 1) := by decide +kernel
theorem dX8_isLess_48 : decode cX8_isLess 48 = .ok (.lload 8, 2) := by decide +kernel
theorem dX8_isLess_50 : decode cX8_isLess 50 = .ok (.lload 10, 2) := by decide +kernel
theorem dX8_isLess_52 : decode cX8_isLess 52 = .ok (.lrem, 1) := by decide +kernel
theorem dX8_isLess_53 : decode cX8_isLess 53 = .ok (.lstore 16, 2) := by decide +kernel
theorem dX8_isLess_55 : decode cX8_isLess 55 = .ok (.lload 12, 2) := by decide +kernel
theorem dX8_isLess_57 : decode cX8_isLess 57 = .ok (.lload 14, 2) := by decide +kernel
theorem dX8_isLess_59 : decode cX8_isLess 59 = .ok (.lrem, 1) := by decide +kernel
theorem dX8_isLess_60 : decode cX8_isLess 60 = .ok (.lstore 18, 2) := by decide +kernel
theorem dX8_isLess_62 : decode cX8_isLess 62 = .ok (.lload 16, 2) := by decide +kernel
theorem dX8_isLess_64 : decode cX8_isLess 64 = .ok (.lconst 0, 1) := by decide +kernel
theorem dX8_isLess_65 : decode cX8_isLess 65 = .ok (.lcmp, 1) := by decide +kernel
theorem dX8_isLess_66 : decode cX8_isLess 66 = .ok (.ifCond .eq 10, 3) := by decide +kernel
theorem dX8_isLess_69 : decode cX8_isLess 69 = .ok (.lload 18, 2) := by decide +kernel
theorem dX8_isLess_71 : decode cX8_isLess 71 = .ok (.lconst 0, 1) := by decide +kernel
theorem dX8_isLess_72 : decode cX8_isLess 72 = .ok (.lcmp, 1) := by decide +kernel
theorem dX8_isLess_73 : decode cX8_isLess 73 = .ok (.ifCond .ne 23, 3) := by decide +kernel
theorem dX8_isLess_76 : decode cX8_isLess 76 = .ok (.lload 16, 2) := by decide +kernel
theorem dX8_isLess_78 : decode cX8_isLess 78 = .ok (.lconst 0, 1) := by decide +kernel
theorem dX8_isLess_79 : decode cX8_isLess 79 = .ok (.lcmp, 1) := by decide +kernel
theorem dX8_isLess_80 : decode cX8_isLess 80 = .ok (.ifCond .ne 14, 3) := by decide +kernel
theorem dX8_isLess_83 : decode cX8_isLess 83 = .ok (.lload 18, 2) := by decide +kernel
theorem dX8_isLess_85 : decode cX8_isLess 85 = .ok (.lconst 0, 1) := by decide +kernel
theorem dX8_isLess_86 : decode cX8_isLess 86 = .ok (.lcmp, 1) := by decide +kernel
theorem dX8_isLess_87 : decode cX8_isLess 87 = .ok (.ifCond .le 7, 3) := by decide +kernel
theorem dX8_isLess_90 : decode cX8_isLess 90 = .ok (.iconst 1, 1) := by decide +kernel
theorem dX8_isLess_91 : decode cX8_isLess 91 = .ok (.goto 4, 3) := by decide +kernel
theorem dX8_isLess_94 : decode cX8_isLess 94 = .ok (.iconst 0, 1) := by decide +kernel
theorem dX8_isLess_95 : decode cX8_isLess 95 = .ok (.ireturn, 1) := by decide +kernel
theorem dX8_isLess_96 : decode cX8_isLess 96 = .ok (.lload 14, 2) := by decide +kernel
theorem dX8_isLess_98 : decode cX8_isLess 98 = .ok (.lstore 8, 2) := by decide +kernel
theorem dX8_isLess_100 : decode cX8_isLess 100 = .ok (.lload 10, 2) := by decide +kernel
theorem dX8_isLess_102 : decode cX8_isLess 102 = .ok (.lstore 12, 2) := by decide +kernel
theorem dX8_isLess_104 : decode cX8_isLess 104 = .ok (.lload 16, 2) := by decide +kernel
theorem dX8_isLess_106 : decode cX8_isLess 106 = .ok (.lstore 20, 2) := by decide +kernel
theorem dX8_isLess_108 : decode cX8_isLess 108 = .ok (.lload 18, 2) := by decide +kernel
theorem dX8_isLess_110 : decode cX8_isLess 110 = .ok (.lstore 10, 2) := by decide +kernel
theorem dX8_isLess_112 : decode cX8_isLess 112 = .ok (.lload 20, 2) := by decide +kernel
theorem dX8_isLess_114 : decode cX8_isLess 114 = .ok (.lstore 14, 2) := by decide +kernel
theorem dX8_isLess_116 : decode cX8_isLess 116 = .ok (.goto (-102), 3) := by decide +kernel
theorem dX8_told_0 : decode cX8_told 0 = .ok (.iload_n 1, 1) := by decide +kernel
theorem dX8_told_1 : decode cX8_told 1 = .ok (.ifCond .ne 10, 3) := by decide +kernel
theorem dX8_told_4 : decode cX8_told 4 = .ok (.aload_n 0, 1) := by decide +kernel
theorem dX8_told_5 : decode cX8_told 5 = .ok (.getfield 83, 3) := by decide +kernel
theorem dX8_told_8 : decode cX8_told 8 = .ok (.goto 7, 3) := by decide +kernel
theorem dX8_told_11 : decode cX8_told 11 = .ok (.aload_n 0, 1) := by decide +kernel
theorem dX8_told_12 : decode cX8_told 12 = .ok (.getfield 87, 3) := by decide +kernel
theorem dX8_told_15 : decode cX8_told 15 = .ok (.lreturn, 1) := by decide +kernel
theorem dX8_left_0 : decode cX8_left 0 = .ok (.iconst 0, 1) := by decide +kernel
theorem dX8_left_1 : decode cX8_left 1 = .ok (.istore_n 3, 1) := by decide +kernel
theorem dX8_left_2 : decode cX8_left 2 = .ok (.iload_n 2, 1) := by decide +kernel
theorem dX8_left_3 : decode cX8_left 3 = .ok (.iconst 1, 1) := by decide +kernel
theorem dX8_left_4 : decode cX8_left 4 = .ok (.iadd, 1) := by decide +kernel
theorem dX8_left_5 : decode cX8_left 5 = .ok (.istore 4, 2) := by decide +kernel
theorem dX8_left_7 : decode cX8_left 7 = .ok (.iload 4, 2) := by decide +kernel
theorem dX8_left_9 : decode cX8_left 9 = .ok (.iload_n 1, 1) := by decide +kernel
theorem dX8_left_10 : decode cX8_left 10 = .ok (.if_icmp .gt 16, 3) := by decide +kernel
theorem dX8_left_13 : decode cX8_left 13 = .ok (.iload_n 3, 1) := by decide +kernel
theorem dX8_left_14 : decode cX8_left 14 = .ok (.aload_n 0, 1) := by decide +kernel
theorem dX8_left_15 : decode cX8_left 15 = .ok (.iload 4, 2) := by decide +kernel
theorem dX8_left_17 : decode cX8_left 17 = .ok (.iaload, 1) := by decide +kernel
theorem dX8_left_18 : decode cX8_left 18 = .ok (.iadd, 1) := by decide +kernel
theorem dX8_left_19 : decode cX8_left 19 = .ok (.istore_n 3, 1) := by decide +kernel
theorem dX8_left_20 : decode cX8_left 20 = .ok (.iinc 4 1, 3) := by decide +kernel
theorem dX8_left_23 : decode cX8_left 23 = .ok (.goto (-16), 3) := by decide +kernel
theorem dX8_left_26 : decode cX8_left 26 = .ok (.iload_n 3, 1) := by decide +kernel
theorem dX8_left_27 : decode cX8_left 27 = .ok (.ireturn, 1) := by decide +kernel
set_option maxRecDepth 20000 in
theorem ggX8_leftOf_X8_left : GoodIn wsX8_leftOf wsX8_left := goodIn_r _ [5] (by decide +kernel) (by decide +kernel)
set_option maxRecDepth 20000 in
theorem gX8_leftOf_X8_left : GoodIn wsX8_leftOf (va_wsS RX8 94 yX8_left wsX8_left) := goodIn_app (goodIn_of _ (by decide +kernel)) ggX8_leftOf_X8_left
theorem dX8_leftOf_0 : decode cX8_leftOf 0 = .ok (.aload_n 0, 1) := by decide +kernel
theorem dX8_leftOf_1 : decode cX8_leftOf 1 = .ok (.getfield 7, 3) := by decide +kernel
theorem dX8_leftOf_4 : decode cX8_leftOf 4 = .ok (.aload_n 0, 1) := by decide +kernel
theorem dX8_leftOf_5 : decode cX8_leftOf 5 = .ok (.getfield 7, 3) := by decide +kernel
theorem dX8_leftOf_8 : decode cX8_leftOf 8 = .ok (.iconst 0, 1) := by decide +kernel
theorem dX8_leftOf_9 : decode cX8_leftOf 9 = .ok (.iaload, 1) := by decide +kernel
theorem dX8_leftOf_10 : decode cX8_leftOf 10 = .ok (.iload_n 1, 1) := by decide +kernel
theorem dX8_leftOf_11 : decode cX8_leftOf 11 = .ok (.invokestatic 94, 3) := by decide +kernel
theorem dX8_leftOf_14 : decode cX8_leftOf 14 = .ok (.ireturn, 1) := by decide +kernel
set_option maxRecDepth 20000 in
theorem ggX8_rates_X8_left : GoodIn wsX8_rates wsX8_left := goodIn_r _ [5] (by decide +kernel) (by decide +kernel)
set_option maxRecDepth 20000 in
theorem gX8_rates_X8_left : GoodIn wsX8_rates (va_wsS RX8 94 yX8_left wsX8_left) := goodIn_app (goodIn_of _ (by decide +kernel)) ggX8_rates_X8_left
set_option maxRecDepth 20000 in
theorem ggX8_rates_X8_becomes : GoodIn wsX8_rates wsX8_becomes := goodIn_r _ [9, 10, 11, 12, 13, 4, 14, 15, 16, 17, 18, 19, 20, 21, 22, 23, 24, 25, 26, 27, 28, 29, 30, 31, 32, 33, 34, 35, 36, 37, 38, 39, 40, 41, 42, 43, 44, 45, 46, 47] (by decide +kernel) (by decide +kernel)
set_option maxRecDepth 20000 in
theorem gX8_rates_X8_becomes : GoodIn wsX8_rates (wsV RX8 90 RX8 yX8_becomes wsX8_becomes) := goodIn_app (goodIn_of _ (by decide +kernel)) ggX8_rates_X8_becomes
theorem dX8_rates_0 : decode cX8_rates 0 = .ok (.aload_n 1, 1) := by decide +kernel
theorem dX8_rates_1 : decode cX8_rates 1 = .ok (.iload_n 2, 1) := by decide +kernel
theorem dX8_rates_2 : decode cX8_rates 2 = .ok (.iconst 0, 1) := by decide +kernel
theorem dX8_rates_3 : decode cX8_rates 3 = .ok (.invokestatic 94, 3) := by decide +kernel
theorem dX8_rates_6 : decode cX8_rates 6 = .ok (.istore 4, 2) := by decide +kernel
theorem dX8_rates_8 : decode cX8_rates 8 = .ok (.aload_n 1, 1) := by decide +kernel
theorem dX8_rates_9 : decode cX8_rates 9 = .ok (.iload_n 2, 1) := by decide +kernel
theorem dX8_rates_10 : decode cX8_rates 10 = .ok (.iload_n 3, 1) := by decide +kernel
theorem dX8_rates_11 : decode cX8_rates 11 = .ok (.invokestatic 94, 3) := by decide +kernel
theorem dX8_rates_14 : decode cX8_rates 14 = .ok (.istore 5, 2) := by decide +kernel
theorem dX8_rates_16 : decode cX8_rates 16 = .ok (.iconst 0, 1) := by decide +kernel
theorem dX8_rates_17 : decode cX8_rates 17 = .ok (.istore 6, 2) := by decide +kernel
theorem dX8_rates_19 : decode cX8_rates 19 = .ok (.iconst 0, 1) := by decide +kernel
theorem dX8_rates_20 : decode cX8_rates 20 = .ok (.istore 7, 2) := by decide +kernel
theorem dX8_rates_22 : decode cX8_rates 22 = .ok (.iload 7, 2) := by decide +kernel
theorem dX8_rates_24 : decode cX8_rates 24 = .ok (.iload_n 3, 1) := by decide +kernel
theorem dX8_rates_25 : decode cX8_rates 25 = .ok (.if_icmp .ge 21, 3) := by decide +kernel
theorem dX8_rates_28 : decode cX8_rates 28 = .ok (.iload 6, 2) := by decide +kernel
theorem dX8_rates_30 : decode cX8_rates 30 = .ok (.aload_n 1, 1) := by decide +kernel
theorem dX8_rates_31 : decode cX8_rates 31 = .ok (.iload_n 2, 1) := by decide +kernel
theorem dX8_rates_32 : decode cX8_rates 32 = .ok (.iload 7, 2) := by decide +kernel
theorem dX8_rates_34 : decode cX8_rates 34 = .ok (.invokestatic 94, 3) := by decide +kernel
theorem dX8_rates_37 : decode cX8_rates 37 = .ok (.iadd, 1) := by decide +kernel
theorem dX8_rates_38 : decode cX8_rates 38 = .ok (.istore 6, 2) := by decide +kernel
theorem dX8_rates_40 : decode cX8_rates 40 = .ok (.iinc 7 1, 3) := by decide +kernel
theorem dX8_rates_43 : decode cX8_rates 43 = .ok (.goto (-21), 3) := by decide +kernel
theorem dX8_rates_46 : decode cX8_rates 46 = .ok (.aload_n 0, 1) := by decide +kernel
theorem dX8_rates_47 : decode cX8_rates 47 = .ok (.aload_n 0, 1) := by decide +kernel
theorem dX8_rates_48 : decode cX8_rates 48 = .ok (.getfield 7, 3) := by decide +kernel
theorem dX8_rates_51 : decode cX8_rates 51 = .ok (.bipush 9, 2) := by decide +kernel
theorem dX8_rates_53 : decode cX8_rates 53 = .ok (.iaload, 1) := by decide +kernel
theorem dX8_rates_54 : decode cX8_rates 54 = .ok (.iload 4, 2) := by decide +kernel
theorem dX8_rates_56 : decode cX8_rates 56 = .ok (.iload 5, 2) := by decide +kernel
theorem dX8_rates_58 : decode cX8_rates 58 = .ok (.isub, 1) := by decide +kernel
theorem dX8_rates_59 : decode cX8_rates 59 = .ok (.imul, 1) := by decide +kernel
theorem dX8_rates_60 : decode cX8_rates 60 = .ok (.aload_n 0, 1) := by decide +kernel
theorem dX8_rates_61 : decode cX8_rates 61 = .ok (.getfield 7, 3) := by decide +kernel
theorem dX8_rates_64 : decode cX8_rates 64 = .ok (.bipush 10, 2) := by decide +kernel
theorem dX8_rates_66 : decode cX8_rates 66 = .ok (.iaload, 1) := by decide +kernel
theorem dX8_rates_67 : decode cX8_rates 67 = .ok (.iload 5, 2) := by decide +kernel
theorem dX8_rates_69 : decode cX8_rates 69 = .ok (.imul, 1) := by decide +kernel
theorem dX8_rates_70 : decode cX8_rates 70 = .ok (.iadd, 1) := by decide +kernel
theorem dX8_rates_71 : decode cX8_rates 71 = .ok (.i2l, 1) := by decide +kernel
theorem dX8_rates_72 : decode cX8_rates 72 = .ok (.iload 6, 2) := by decide +kernel
theorem dX8_rates_74 : decode cX8_rates 74 = .ok (.i2l, 1) := by decide +kernel
theorem dX8_rates_75 : decode cX8_rates 75 = .ok (.invokevirtual 90, 3) := by decide +kernel
theorem dX8_rates_78 : decode cX8_rates 78 = .ok (.return_, 1) := by decide +kernel
set_option maxRecDepth 20000 in
theorem ggX8_bestAge_X8_rates : GoodIn wsX8_bestAge wsX8_rates := goodIn_r _ [7, 8, 9, 10, 6, 11, 12, 13, 14, 15, 1, 2, 16, 17, 18, 22, 23, 24, 25, 26, 27, 28, 29, 30, 31, 32, 33, 34, 35, 36, 37, 38, 39, 40, 41, 42, 43, 44, 45, 46, 47, 48, 49, 50, 51, 52, 53, 54] (by decide +kernel) (by decide +kernel)
set_option maxRecDepth 20000 in
theorem gX8_bestAge_X8_rates : GoodIn wsX8_bestAge (wsV RX8 98 RX8 yX8_rates wsX8_rates) := goodIn_app (goodIn_of _ (by decide +kernel)) ggX8_bestAge_X8_rates
set_option maxRecDepth 20000 in
theorem ggX8_bestAge_X8_isLess : GoodIn wsX8_bestAge wsX8_isLess := goodIn_r _ [21] (by decide +kernel) (by decide +kernel)
set_option maxRecDepth 20000 in
theorem gX8_bestAge_X8_isLess : GoodIn wsX8_bestAge (va_wsS RX8 102 yX8_isLess wsX8_isLess) := goodIn_app (goodIn_of _ (by decide +kernel)) ggX8_bestAge_X8_isLess
theorem dX8_bestAge_0 : decode cX8_bestAge 0 = .ok (.iconst 1, 1) := by decide +kernel
theorem dX8_bestAge_1 : decode cX8_bestAge 1 = .ok (.istore_n 3, 1) := by decide +kernel
theorem dX8_bestAge_2 : decode cX8_bestAge 2 = .ok (.aload_n 0, 1) := by decide +kernel
theorem dX8_bestAge_3 : decode cX8_bestAge 3 = .ok (.aload_n 1, 1) := by decide +kernel
theorem dX8_bestAge_4 : decode cX8_bestAge 4 = .ok (.iload_n 2, 1) := by decide +kernel
theorem dX8_bestAge_5 : decode cX8_bestAge 5 = .ok (.iconst 1, 1) := by decide +kernel
theorem dX8_bestAge_6 : decode cX8_bestAge 6 = .ok (.invokevirtual 98, 3) := by decide +kernel
theorem dX8_bestAge_9 : decode cX8_bestAge 9 = .ok (.aload_n 0, 1) := by decide +kernel
theorem dX8_bestAge_10 : decode cX8_bestAge 10 = .ok (.getfield 83, 3) := by decide +kernel
theorem dX8_bestAge_13 : decode cX8_bestAge 13 = .ok (.lstore 4, 2) := by decide +kernel
theorem dX8_bestAge_15 : decode cX8_bestAge 15 = .ok (.aload_n 0, 1) := by decide +kernel
theorem dX8_bestAge_16 : decode cX8_bestAge 16 = .ok (.getfield 87, 3) := by decide +kernel
theorem dX8_bestAge_19 : decode cX8_bestAge 19 = .ok (.lstore 6, 2) := by decide +kernel
theorem dX8_bestAge_21 : decode cX8_bestAge 21 = .ok (.iconst 2, 1) := by decide +kernel
theorem dX8_bestAge_22 : decode cX8_bestAge 22 = .ok (.istore 8, 2) := by decide +kernel
theorem dX8_bestAge_24 : decode cX8_bestAge 24 = .ok (.iload 8, 2) := by decide +kernel
theorem dX8_bestAge_26 : decode cX8_bestAge 26 = .ok (.iload_n 2, 1) := by decide +kernel
theorem dX8_bestAge_27 : decode cX8_bestAge 27 = .ok (.if_icmp .gt 50, 3) := by decide +kernel
theorem dX8_bestAge_30 : decode cX8_bestAge 30 = .ok (.aload_n 0, 1) := by decide +kernel
theorem dX8_bestAge_31 : decode cX8_bestAge 31 = .ok (.aload_n 1, 1) := by decide +kernel
theorem dX8_bestAge_32 : decode cX8_bestAge 32 = .ok (.iload_n 2, 1) := by decide +kernel
theorem dX8_bestAge_33 : decode cX8_bestAge 33 = .ok (.iload 8, 2) := by decide +kernel
theorem dX8_bestAge_35 : decode cX8_bestAge 35 = .ok (.invokevirtual 98, 3) := by decide +kernel
theorem dX8_bestAge_38 : decode cX8_bestAge 38 = .ok (.aload_n 0, 1) := by decide +kernel
theorem dX8_bestAge_39 : decode cX8_bestAge 39 = .ok (.getfield 83, 3) := by decide +kernel
theorem dX8_bestAge_42 : decode cX8_bestAge 42 = .ok (.aload_n 0, 1) := by decide +kernel
theorem dX8_bestAge_43 : decode cX8_bestAge 43 = .ok (.getfield 87, 3) := by decide +kernel
theorem dX8_bestAge_46 : decode cX8_bestAge 46 = .ok (.lload 4, 2) := by decide +kernel
theorem dX8_bestAge_48 : decode cX8_bestAge 48 = .ok (.lload 6, 2) := by decide +kernel
theorem dX8_bestAge_50 : decode cX8_bestAge 50 = .ok (.invokestatic 102, 3) := by decide +kernel
theorem dX8_bestAge_53 : decode cX8_bestAge 53 = .ok (.ifCond .eq 18, 3) := by decide +kernel
theorem dX8_bestAge_56 : decode cX8_bestAge 56 = .ok (.iload 8, 2) := by decide +kernel
theorem dX8_bestAge_58 : decode cX8_bestAge 58 = .ok (.istore_n 3, 1) := by decide +kernel
theorem dX8_bestAge_59 : decode cX8_bestAge 59 = .ok (.aload_n 0, 1) := by decide +kernel
theorem dX8_bestAge_60 : decode cX8_bestAge 60 = .ok (.getfield 83, 3) := by decide +kernel
theorem dX8_bestAge_63 : decode cX8_bestAge 63 = .ok (.lstore 4, 2) := by decide +kernel
theorem dX8_bestAge_65 : decode cX8_bestAge 65 = .ok (.aload_n 0, 1) := by decide +kernel
theorem dX8_bestAge_66 : decode cX8_bestAge 66 = .ok (.getfield 87, 3) := by decide +kernel
theorem dX8_bestAge_69 : decode cX8_bestAge 69 = .ok (.lstore 6, 2) := by decide +kernel
theorem dX8_bestAge_71 : decode cX8_bestAge 71 = .ok (.iinc 8 1, 3) := by decide +kernel
theorem dX8_bestAge_74 : decode cX8_bestAge 74 = .ok (.goto (-50), 3) := by decide +kernel
theorem dX8_bestAge_77 : decode cX8_bestAge 77 = .ok (.iload_n 3, 1) := by decide +kernel
theorem dX8_bestAge_78 : decode cX8_bestAge 78 = .ok (.ireturn, 1) := by decide +kernel
set_option maxRecDepth 20000 in
theorem ggX8_isAge_X8_in : GoodIn wsX8_isAge wsX8_in := goodIn_r _ [5] (by decide +kernel) (by decide +kernel)
set_option maxRecDepth 20000 in
theorem gX8_isAge_X8_in : GoodIn wsX8_isAge (va_wsS RX8 106 yX8_in wsX8_in) := goodIn_app (goodIn_of _ (by decide +kernel)) ggX8_isAge_X8_in
theorem dX8_isAge_0 : decode cX8_isAge 0 = .ok (.iload_n 1, 1) := by decide +kernel
theorem dX8_isAge_1 : decode cX8_isAge 1 = .ok (.i2l, 1) := by decide +kernel
theorem dX8_isAge_2 : decode cX8_isAge 2 = .ok (.lconst 1, 1) := by decide +kernel
theorem dX8_isAge_3 : decode cX8_isAge 3 = .ok (.aload_n 0, 1) := by decide +kernel
theorem dX8_isAge_4 : decode cX8_isAge 4 = .ok (.getfield 7, 3) := by decide +kernel
theorem dX8_isAge_7 : decode cX8_isAge 7 = .ok (.iconst 0, 1) := by decide +kernel
theorem dX8_isAge_8 : decode cX8_isAge 8 = .ok (.iaload, 1) := by decide +kernel
theorem dX8_isAge_9 : decode cX8_isAge 9 = .ok (.i2l, 1) := by decide +kernel
theorem dX8_isAge_10 : decode cX8_isAge 10 = .ok (.invokestatic 106, 3) := by decide +kernel
theorem dX8_isAge_13 : decode cX8_isAge 13 = .ok (.ireturn, 1) := by decide +kernel
theorem dX8_begins_0 : decode cX8_begins 0 = .ok (.aload_n 0, 1) := by decide +kernel
theorem dX8_begins_1 : decode cX8_begins 1 = .ok (.getfield 7, 3) := by decide +kernel
theorem dX8_begins_4 : decode cX8_begins 4 = .ok (.bipush 13, 2) := by decide +kernel
theorem dX8_begins_6 : decode cX8_begins 6 = .ok (.iconst 0, 1) := by decide +kernel
theorem dX8_begins_7 : decode cX8_begins 7 = .ok (.iastore, 1) := by decide +kernel
theorem dX8_begins_8 : decode cX8_begins 8 = .ok (.return_, 1) := by decide +kernel
set_option maxRecDepth 20000 in
theorem ggX8_weigh_X8_isAge : GoodIn wsX8_weigh wsX8_isAge := goodIn_r _ [7, 2, 8, 9, 6, 10, 31, 32, 33, 34, 35, 36, 37, 38, 39, 40, 41, 42, 43, 44, 45, 46, 47, 48, 49, 50, 51, 52, 53, 54, 55, 56, 57, 58, 59, 60, 61, 62, 63] (by decide +kernel) (by decide +kernel)
set_option maxRecDepth 20000 in
theorem gX8_weigh_X8_isAge : GoodIn wsX8_weigh (wsV RX8 110 RX8 yX8_isAge wsX8_isAge) := goodIn_app (goodIn_of _ (by decide +kernel)) ggX8_weigh_X8_isAge
set_option maxRecDepth 20000 in
theorem ggX8_weigh_X8_in : GoodIn wsX8_weigh wsX8_in := goodIn_r _ [10] (by decide +kernel) (by decide +kernel)
set_option maxRecDepth 20000 in
theorem gX8_weigh_X8_in : GoodIn wsX8_weigh (va_wsS RX8 106 yX8_in wsX8_in) := goodIn_app (goodIn_of _ (by decide +kernel)) ggX8_weigh_X8_in
set_option maxRecDepth 20000 in
theorem ggX8_weigh_X8_leftOf : GoodIn wsX8_weigh wsX8_leftOf := goodIn_r _ [14, 2, 15, 16, 6, 17, 31, 32, 33, 34, 35, 36, 37, 38, 39, 40, 41, 42, 43, 44, 45, 46, 47, 48, 49, 50, 51, 52, 53, 54, 55, 56, 57, 58, 59, 60, 61, 62, 63] (by decide +kernel) (by decide +kernel)
set_option maxRecDepth 20000 in
theorem gX8_weigh_X8_leftOf : GoodIn wsX8_weigh (wsV RX8 116 RX8 yX8_leftOf wsX8_leftOf) := goodIn_app (goodIn_of _ (by decide +kernel)) ggX8_weigh_X8_leftOf
set_option maxRecDepth 20000 in
theorem ggX8_weigh_X8_notes : GoodIn wsX8_weigh wsX8_notes := goodIn_r _ [21, 22, 23, 2, 24, 25, 6, 26, 31, 32, 33, 34, 35, 36, 37, 38, 39, 40, 41, 42, 43, 44, 45, 46, 47, 48, 49, 50, 51, 52, 53, 54, 55, 56, 57, 58, 59, 60, 61, 62, 63] (by decide +kernel) (by decide +kernel)
set_option maxRecDepth 20000 in
theorem gX8_weigh_X8_notes : GoodIn wsX8_weigh (wsV RX8 120 RX8 yX8_notes wsX8_notes) := goodIn_app (goodIn_of _ (by decide +kernel)) ggX8_weigh_X8_notes
set_option maxRecDepth 20000 in
theorem ggX8_weigh_X8_begins : GoodIn wsX8_weigh wsX8_begins := goodIn_r _ [30, 2, 31, 32, 33, 34, 35, 36, 37, 38, 39, 40, 41, 42, 43, 44, 45, 46, 47, 48, 49, 50, 51, 52, 53, 54, 55, 56, 57, 58, 59, 60, 61, 62, 63] (by decide +kernel) (by decide +kernel)
set_option maxRecDepth 20000 in
theorem gX8_weigh_X8_begins : GoodIn wsX8_weigh (wsV RX8 123 RX8 yX8_begins wsX8_begins) := goodIn_app (goodIn_of _ (by decide +kernel)) ggX8_weigh_X8_begins
theorem dX8_weigh_0 : decode cX8_weigh 0 = .ok (.aload_n 0, 1) := by decide +kernel
theorem dX8_weigh_1 : decode cX8_weigh 1 = .ok (.iload_n 1, 1) := by decide +kernel
theorem dX8_weigh_2 : decode cX8_weigh 2 = .ok (.invokevirtual 110, 3) := by decide +kernel
theorem dX8_weigh_5 : decode cX8_weigh 5 = .ok (.ifCond .eq 15, 3) := by decide +kernel
theorem dX8_weigh_8 : decode cX8_weigh 8 = .ok (.iload_n 2, 1) := by decide +kernel
theorem dX8_weigh_9 : decode cX8_weigh 9 = .ok (.i2l, 1) := by decide +kernel
theorem dX8_weigh_10 : decode cX8_weigh 10 = .ok (.lconst 0, 1) := by decide +kernel
theorem dX8_weigh_11 : decode cX8_weigh 11 = .ok (.ldc2_w 114, 3) := by decide +kernel
theorem dX8_weigh_14 : decode cX8_weigh 14 = .ok (.invokestatic 106, 3) := by decide +kernel
theorem dX8_weigh_17 : decode cX8_weigh 17 = .ok (.ifCond .ne 5, 3) := by decide +kernel
theorem dX8_weigh_20 : decode cX8_weigh 20 = .ok (.iconst (-1), 1) := by decide +kernel
theorem dX8_weigh_21 : decode cX8_weigh 21 = .ok (.ireturn, 1) := by decide +kernel
theorem dX8_weigh_22 : decode cX8_weigh 22 = .ok (.aload_n 0, 1) := by decide +kernel
theorem dX8_weigh_23 : decode cX8_weigh 23 = .ok (.getfield 7, 3) := by decide +kernel
theorem dX8_weigh_26 : decode cX8_weigh 26 = .ok (.iload_n 1, 1) := by decide +kernel
theorem dX8_weigh_27 : decode cX8_weigh 27 = .ok (.iaload, 1) := by decide +kernel
theorem dX8_weigh_28 : decode cX8_weigh 28 = .ok (.istore_n 3, 1) := by decide +kernel
theorem dX8_weigh_29 : decode cX8_weigh 29 = .ok (.iload_n 3, 1) := by decide +kernel
theorem dX8_weigh_30 : decode cX8_weigh 30 = .ok (.iload_n 2, 1) := by decide +kernel
theorem dX8_weigh_31 : decode cX8_weigh 31 = .ok (.if_icmp .ne 6, 3) := by decide +kernel
theorem dX8_weigh_34 : decode cX8_weigh 34 = .ok (.bipush (-2), 2) := by decide +kernel
theorem dX8_weigh_36 : decode cX8_weigh 36 = .ok (.ireturn, 1) := by decide +kernel
theorem dX8_weigh_37 : decode cX8_weigh 37 = .ok (.aload_n 0, 1) := by decide +kernel
theorem dX8_weigh_38 : decode cX8_weigh 38 = .ok (.iconst 0, 1) := by decide +kernel
theorem dX8_weigh_39 : decode cX8_weigh 39 = .ok (.invokevirtual 116, 3) := by decide +kernel
theorem dX8_weigh_42 : decode cX8_weigh 42 = .ok (.iload_n 3, 1) := by decide +kernel
theorem dX8_weigh_43 : decode cX8_weigh 43 = .ok (.isub, 1) := by decide +kernel
theorem dX8_weigh_44 : decode cX8_weigh 44 = .ok (.iload_n 2, 1) := by decide +kernel
theorem dX8_weigh_45 : decode cX8_weigh 45 = .ok (.iadd, 1) := by decide +kernel
theorem dX8_weigh_46 : decode cX8_weigh 46 = .ok (.bipush 24, 2) := by decide +kernel
theorem dX8_weigh_48 : decode cX8_weigh 48 = .ok (.if_icmp .le 6, 3) := by decide +kernel
theorem dX8_weigh_51 : decode cX8_weigh 51 = .ok (.bipush (-3), 2) := by decide +kernel
theorem dX8_weigh_53 : decode cX8_weigh 53 = .ok (.ireturn, 1) := by decide +kernel
theorem dX8_weigh_54 : decode cX8_weigh 54 = .ok (.iload_n 1, 1) := by decide +kernel
theorem dX8_weigh_55 : decode cX8_weigh 55 = .ok (.aload_n 0, 1) := by decide +kernel
theorem dX8_weigh_56 : decode cX8_weigh 56 = .ok (.getfield 7, 3) := by decide +kernel
theorem dX8_weigh_59 : decode cX8_weigh 59 = .ok (.iconst 0, 1) := by decide +kernel
theorem dX8_weigh_60 : decode cX8_weigh 60 = .ok (.iaload, 1) := by decide +kernel
theorem dX8_weigh_61 : decode cX8_weigh 61 = .ok (.if_icmp .ne 10, 3) := by decide +kernel
theorem dX8_weigh_64 : decode cX8_weigh 64 = .ok (.iload_n 2, 1) := by decide +kernel
theorem dX8_weigh_65 : decode cX8_weigh 65 = .ok (.ifCond .ne 6, 3) := by decide +kernel
theorem dX8_weigh_68 : decode cX8_weigh 68 = .ok (.bipush (-4), 2) := by decide +kernel
theorem dX8_weigh_70 : decode cX8_weigh 70 = .ok (.ireturn, 1) := by decide +kernel
theorem dX8_weigh_71 : decode cX8_weigh 71 = .ok (.aload_n 0, 1) := by decide +kernel
theorem dX8_weigh_72 : decode cX8_weigh 72 = .ok (.invokevirtual 120, 3) := by decide +kernel
theorem dX8_weigh_75 : decode cX8_weigh 75 = .ok (.aload_n 0, 1) := by decide +kernel
theorem dX8_weigh_76 : decode cX8_weigh 76 = .ok (.getfield 7, 3) := by decide +kernel
theorem dX8_weigh_79 : decode cX8_weigh 79 = .ok (.iload_n 1, 1) := by decide +kernel
theorem dX8_weigh_80 : decode cX8_weigh 80 = .ok (.iload_n 2, 1) := by decide +kernel
theorem dX8_weigh_81 : decode cX8_weigh 81 = .ok (.iastore, 1) := by decide +kernel
theorem dX8_weigh_82 : decode cX8_weigh 82 = .ok (.aload_n 0, 1) := by decide +kernel
theorem dX8_weigh_83 : decode cX8_weigh 83 = .ok (.invokevirtual 123, 3) := by decide +kernel
theorem dX8_weigh_86 : decode cX8_weigh 86 = .ok (.iload_n 3, 1) := by decide +kernel
theorem dX8_weigh_87 : decode cX8_weigh 87 = .ok (.ireturn, 1) := by decide +kernel
set_option maxRecDepth 20000 in
theorem ggX8_ages_X8_in : GoodIn wsX8_ages wsX8_in := goodIn_r _ [6] (by decide +kernel) (by decide +kernel)
set_option maxRecDepth 20000 in
theorem gX8_ages_X8_in : GoodIn wsX8_ages (va_wsS RX8 106 yX8_in wsX8_in) := goodIn_app (goodIn_of _ (by decide +kernel)) ggX8_ages_X8_in
set_option maxRecDepth 20000 in
theorem ggX8_ages_X8_leftOf : GoodIn wsX8_ages wsX8_leftOf := goodIn_r _ [10, 2, 11, 12, 5, 13, 27, 28, 29, 30, 31, 32, 33, 34, 35, 36, 37, 38, 39, 40, 41, 42, 43, 44, 45, 46, 47, 48, 49, 50, 51, 52, 53, 54, 55, 56, 57, 58, 59] (by decide +kernel) (by decide +kernel)
set_option maxRecDepth 20000 in
theorem gX8_ages_X8_leftOf : GoodIn wsX8_ages (wsV RX8 116 RX8 yX8_leftOf wsX8_leftOf) := goodIn_app (goodIn_of _ (by decide +kernel)) ggX8_ages_X8_leftOf
set_option maxRecDepth 20000 in
theorem ggX8_ages_X8_notes : GoodIn wsX8_ages wsX8_notes := goodIn_r _ [17, 18, 19, 2, 20, 21, 5, 22, 27, 28, 29, 30, 31, 32, 33, 34, 35, 36, 37, 38, 39, 40, 41, 42, 43, 44, 45, 46, 47, 48, 49, 50, 51, 52, 53, 54, 55, 56, 57, 58, 59] (by decide +kernel) (by decide +kernel)
set_option maxRecDepth 20000 in
theorem gX8_ages_X8_notes : GoodIn wsX8_ages (wsV RX8 120 RX8 yX8_notes wsX8_notes) := goodIn_app (goodIn_of _ (by decide +kernel)) ggX8_ages_X8_notes
set_option maxRecDepth 20000 in
theorem ggX8_ages_X8_begins : GoodIn wsX8_ages wsX8_begins := goodIn_r _ [26, 2, 27, 28, 29, 30, 31, 32, 33, 34, 35, 36, 37, 38, 39, 40, 41, 42, 43, 44, 45, 46, 47, 48, 49, 50, 51, 52, 53, 54, 55, 56, 57, 58, 59] (by decide +kernel) (by decide +kernel)
set_option maxRecDepth 20000 in
theorem gX8_ages_X8_begins : GoodIn wsX8_ages (wsV RX8 123 RX8 yX8_begins wsX8_begins) := goodIn_app (goodIn_of _ (by decide +kernel)) ggX8_ages_X8_begins
theorem dX8_ages_0 : decode cX8_ages 0 = .ok (.iload_n 1, 1) := by decide +kernel
theorem dX8_ages_1 : decode cX8_ages 1 = .ok (.i2l, 1) := by decide +kernel
theorem dX8_ages_2 : decode cX8_ages 2 = .ok (.lconst 1, 1) := by decide +kernel
theorem dX8_ages_3 : decode cX8_ages 3 = .ok (.ldc2_w 126, 3) := by decide +kernel
theorem dX8_ages_6 : decode cX8_ages 6 = .ok (.invokestatic 106, 3) := by decide +kernel
theorem dX8_ages_9 : decode cX8_ages 9 = .ok (.ifCond .ne 5, 3) := by decide +kernel
theorem dX8_ages_12 : decode cX8_ages 12 = .ok (.iconst (-1), 1) := by decide +kernel
theorem dX8_ages_13 : decode cX8_ages 13 = .ok (.ireturn, 1) := by decide +kernel
theorem dX8_ages_14 : decode cX8_ages 14 = .ok (.aload_n 0, 1) := by decide +kernel
theorem dX8_ages_15 : decode cX8_ages 15 = .ok (.getfield 7, 3) := by decide +kernel
theorem dX8_ages_18 : decode cX8_ages 18 = .ok (.iconst 0, 1) := by decide +kernel
theorem dX8_ages_19 : decode cX8_ages 19 = .ok (.iaload, 1) := by decide +kernel
theorem dX8_ages_20 : decode cX8_ages 20 = .ok (.istore_n 2, 1) := by decide +kernel
theorem dX8_ages_21 : decode cX8_ages 21 = .ok (.iload_n 2, 1) := by decide +kernel
theorem dX8_ages_22 : decode cX8_ages 22 = .ok (.iload_n 1, 1) := by decide +kernel
theorem dX8_ages_23 : decode cX8_ages 23 = .ok (.if_icmp .ne 6, 3) := by decide +kernel
theorem dX8_ages_26 : decode cX8_ages 26 = .ok (.bipush (-2), 2) := by decide +kernel
theorem dX8_ages_28 : decode cX8_ages 28 = .ok (.ireturn, 1) := by decide +kernel
theorem dX8_ages_29 : decode cX8_ages 29 = .ok (.iload_n 1, 1) := by decide +kernel
theorem dX8_ages_30 : decode cX8_ages 30 = .ok (.iload_n 2, 1) := by decide +kernel
theorem dX8_ages_31 : decode cX8_ages 31 = .ok (.if_icmp .le 20, 3) := by decide +kernel
theorem dX8_ages_34 : decode cX8_ages 34 = .ok (.aload_n 0, 1) := by decide +kernel
theorem dX8_ages_35 : decode cX8_ages 35 = .ok (.iconst 0, 1) := by decide +kernel
theorem dX8_ages_36 : decode cX8_ages 36 = .ok (.invokevirtual 116, 3) := by decide +kernel
theorem dX8_ages_39 : decode cX8_ages 39 = .ok (.iload_n 1, 1) := by decide +kernel
theorem dX8_ages_40 : decode cX8_ages 40 = .ok (.iadd, 1) := by decide +kernel
theorem dX8_ages_41 : decode cX8_ages 41 = .ok (.iload_n 2, 1) := by decide +kernel
theorem dX8_ages_42 : decode cX8_ages 42 = .ok (.isub, 1) := by decide +kernel
theorem dX8_ages_43 : decode cX8_ages 43 = .ok (.bipush 24, 2) := by decide +kernel
theorem dX8_ages_45 : decode cX8_ages 45 = .ok (.if_icmp .le 6, 3) := by decide +kernel
theorem dX8_ages_48 : decode cX8_ages 48 = .ok (.bipush (-3), 2) := by decide +kernel
theorem dX8_ages_50 : decode cX8_ages 50 = .ok (.ireturn, 1) := by decide +kernel
theorem dX8_ages_51 : decode cX8_ages 51 = .ok (.iload_n 1, 1) := by decide +kernel
theorem dX8_ages_52 : decode cX8_ages 52 = .ok (.iload_n 2, 1) := by decide +kernel
theorem dX8_ages_53 : decode cX8_ages 53 = .ok (.if_icmp .ge 15, 3) := by decide +kernel
theorem dX8_ages_56 : decode cX8_ages 56 = .ok (.aload_n 0, 1) := by decide +kernel
theorem dX8_ages_57 : decode cX8_ages 57 = .ok (.getfield 7, 3) := by decide +kernel
theorem dX8_ages_60 : decode cX8_ages 60 = .ok (.iload_n 1, 1) := by decide +kernel
theorem dX8_ages_61 : decode cX8_ages 61 = .ok (.iaload, 1) := by decide +kernel
theorem dX8_ages_62 : decode cX8_ages 62 = .ok (.ifCond .ne 6, 3) := by decide +kernel
theorem dX8_ages_65 : decode cX8_ages 65 = .ok (.bipush (-4), 2) := by decide +kernel
theorem dX8_ages_67 : decode cX8_ages 67 = .ok (.ireturn, 1) := by decide +kernel
theorem dX8_ages_68 : decode cX8_ages 68 = .ok (.aload_n 0, 1) := by decide +kernel
theorem dX8_ages_69 : decode cX8_ages 69 = .ok (.invokevirtual 120, 3) := by decide +kernel
theorem dX8_ages_72 : decode cX8_ages 72 = .ok (.iload_n 2, 1) := by decide +kernel
theorem dX8_ages_73 : decode cX8_ages 73 = .ok (.iconst 1, 1) := by decide +kernel
theorem dX8_ages_74 : decode cX8_ages 74 = .ok (.iadd, 1) := by decide +kernel
theorem dX8_ages_75 : decode cX8_ages 75 = .ok (.istore_n 3, 1) := by decide +kernel
theorem dX8_ages_76 : decode cX8_ages 76 = .ok (.iload_n 3, 1) := by decide +kernel
theorem dX8_ages_77 : decode cX8_ages 77 = .ok (.iload_n 1, 1) := by decide +kernel
theorem dX8_ages_78 : decode cX8_ages 78 = .ok (.if_icmp .gt 16, 3) := by decide +kernel
theorem dX8_ages_81 : decode cX8_ages 81 = .ok (.aload_n 0, 1) := by decide +kernel
theorem dX8_ages_82 : decode cX8_ages 82 = .ok (.getfield 7, 3) := by decide +kernel
theorem dX8_ages_85 : decode cX8_ages 85 = .ok (.iload_n 3, 1) := by decide +kernel
theorem dX8_ages_86 : decode cX8_ages 86 = .ok (.iconst 1, 1) := by decide +kernel
theorem dX8_ages_87 : decode cX8_ages 87 = .ok (.iastore, 1) := by decide +kernel
theorem dX8_ages_88 : decode cX8_ages 88 = .ok (.iinc 3 1, 3) := by decide +kernel
theorem dX8_ages_91 : decode cX8_ages 91 = .ok (.goto (-15), 3) := by decide +kernel
theorem dX8_ages_94 : decode cX8_ages 94 = .ok (.iload_n 1, 1) := by decide +kernel
theorem dX8_ages_95 : decode cX8_ages 95 = .ok (.iconst 1, 1) := by decide +kernel
theorem dX8_ages_96 : decode cX8_ages 96 = .ok (.iadd, 1) := by decide +kernel
theorem dX8_ages_97 : decode cX8_ages 97 = .ok (.istore_n 3, 1) := by decide +kernel
theorem dX8_ages_98 : decode cX8_ages 98 = .ok (.iload_n 3, 1) := by decide +kernel
theorem dX8_ages_99 : decode cX8_ages 99 = .ok (.bipush 8, 2) := by decide +kernel
theorem dX8_ages_101 : decode cX8_ages 101 = .ok (.if_icmp .gt 16, 3) := by decide +kernel
theorem dX8_ages_104 : decode cX8_ages 104 = .ok (.aload_n 0, 1) := by decide +kernel
theorem dX8_ages_105 : decode cX8_ages 105 = .ok (.getfield 7, 3) := by decide +kernel
theorem dX8_ages_108 : decode cX8_ages 108 = .ok (.iload_n 3, 1) := by decide +kernel
theorem dX8_ages_109 : decode cX8_ages 109 = .ok (.iconst 0, 1) := by decide +kernel
theorem dX8_ages_110 : decode cX8_ages 110 = .ok (.iastore, 1) := by decide +kernel
theorem dX8_ages_111 : decode cX8_ages 111 = .ok (.iinc 3 1, 3) := by decide +kernel
theorem dX8_ages_114 : decode cX8_ages 114 = .ok (.goto (-16), 3) := by decide +kernel
theorem dX8_ages_117 : decode cX8_ages 117 = .ok (.aload_n 0, 1) := by decide +kernel
theorem dX8_ages_118 : decode cX8_ages 118 = .ok (.getfield 7, 3) := by decide +kernel
theorem dX8_ages_121 : decode cX8_ages 121 = .ok (.iconst 0, 1) := by decide +kernel
theorem dX8_ages_122 : decode cX8_ages 122 = .ok (.iload_n 1, 1) := by decide +kernel
theorem dX8_ages_123 : decode cX8_ages 123 = .ok (.iastore, 1) := by decide +kernel
theorem dX8_ages_124 : decode cX8_ages 124 = .ok (.aload_n 0, 1) := by decide +kernel
theorem dX8_ages_125 : decode cX8_ages 125 = .ok (.invokevirtual 123, 3) := by decide +kernel
theorem dX8_ages_128 : decode cX8_ages 128 = .ok (.iload_n 2, 1) := by decide +kernel
theorem dX8_ages_129 : decode cX8_ages 129 = .ok (.ireturn, 1) := by decide +kernel
set_option maxRecDepth 20000 in
theorem ggX8_tell_X8_in : GoodIn wsX8_tell wsX8_in := goodIn_r _ [7] (by decide +kernel) (by decide +kernel)
set_option maxRecDepth 20000 in
theorem gX8_tell_X8_in : GoodIn wsX8_tell (va_wsS RX8 106 yX8_in wsX8_in) := goodIn_app (goodIn_of _ (by decide +kernel)) ggX8_tell_X8_in
set_option maxRecDepth 20000 in
theorem ggX8_tell_X8_notes : GoodIn wsX8_tell wsX8_notes := goodIn_r _ [11, 12, 13, 3, 14, 15, 6, 16, 17, 18, 19, 20, 21, 22, 23, 24, 25, 26, 27, 28, 29, 30, 31, 32, 33, 34, 35, 36, 37, 38, 39, 40, 41, 42, 43, 44, 45, 46, 47, 48, 49] (by decide +kernel) (by decide +kernel)
set_option maxRecDepth 20000 in
theorem gX8_tell_X8_notes : GoodIn wsX8_tell (wsV RX8 120 RX8 yX8_notes wsX8_notes) := goodIn_app (goodIn_of _ (by decide +kernel)) ggX8_tell_X8_notes
theorem dX8_tell_0 : decode cX8_tell 0 = .ok (.iload_n 1, 1) := by decide +kernel
theorem dX8_tell_1 : decode cX8_tell 1 = .ok (.ifCond .ne 15, 3) := by decide +kernel
theorem dX8_tell_4 : decode cX8_tell 4 = .ok (.iload_n 2, 1) := by decide +kernel
theorem dX8_tell_5 : decode cX8_tell 5 = .ok (.i2l, 1) := by decide +kernel
theorem dX8_tell_6 : decode cX8_tell 6 = .ok (.lconst 1, 1) := by decide +kernel
theorem dX8_tell_7 : decode cX8_tell 7 = .ok (.ldc2_w 128, 3) := by decide +kernel
theorem dX8_tell_10 : decode cX8_tell 10 = .ok (.invokestatic 106, 3) := by decide +kernel
theorem dX8_tell_13 : decode cX8_tell 13 = .ok (.ifCond .ne 37, 3) := by decide +kernel
theorem dX8_tell_16 : decode cX8_tell 16 = .ok (.iload_n 1, 1) := by decide +kernel
theorem dX8_tell_17 : decode cX8_tell 17 = .ok (.iconst 1, 1) := by decide +kernel
theorem dX8_tell_18 : decode cX8_tell 18 = .ok (.if_icmp .ne 15, 3) := by decide +kernel
theorem dX8_tell_21 : decode cX8_tell 21 = .ok (.iload_n 2, 1) := by decide +kernel
theorem dX8_tell_22 : decode cX8_tell 22 = .ok (.i2l, 1) := by decide +kernel
theorem dX8_tell_23 : decode cX8_tell 23 = .ok (.lconst 0, 1) := by decide +kernel
theorem dX8_tell_24 : decode cX8_tell 24 = .ok (.ldc2_w 128, 3) := by decide +kernel
theorem dX8_tell_27 : decode cX8_tell 27 = .ok (.invokestatic 106, 3) := by decide +kernel
theorem dX8_tell_30 : decode cX8_tell 30 = .ok (.ifCond .ne 20, 3) := by decide +kernel
theorem dX8_tell_33 : decode cX8_tell 33 = .ok (.iload_n 1, 1) := by decide +kernel
theorem dX8_tell_34 : decode cX8_tell 34 = .ok (.iconst 2, 1) := by decide +kernel
theorem dX8_tell_35 : decode cX8_tell 35 = .ok (.if_icmp .ne 19, 3) := by decide +kernel
theorem dX8_tell_38 : decode cX8_tell 38 = .ok (.iload_n 2, 1) := by decide +kernel
theorem dX8_tell_39 : decode cX8_tell 39 = .ok (.i2l, 1) := by decide +kernel
theorem dX8_tell_40 : decode cX8_tell 40 = .ok (.lconst 1, 1) := by decide +kernel
theorem dX8_tell_41 : decode cX8_tell 41 = .ok (.ldc2_w 126, 3) := by decide +kernel
theorem dX8_tell_44 : decode cX8_tell 44 = .ok (.invokestatic 106, 3) := by decide +kernel
theorem dX8_tell_47 : decode cX8_tell 47 = .ok (.ifCond .eq 7, 3) := by decide +kernel
theorem dX8_tell_50 : decode cX8_tell 50 = .ok (.iconst 1, 1) := by decide +kernel
theorem dX8_tell_51 : decode cX8_tell 51 = .ok (.goto 4, 3) := by decide +kernel
theorem dX8_tell_54 : decode cX8_tell 54 = .ok (.iconst 0, 1) := by decide +kernel
theorem dX8_tell_55 : decode cX8_tell 55 = .ok (.istore_n 3, 1) := by decide +kernel
theorem dX8_tell_56 : decode cX8_tell 56 = .ok (.iload_n 3, 1) := by decide +kernel
theorem dX8_tell_57 : decode cX8_tell 57 = .ok (.ifCond .ne 5, 3) := by decide +kernel
theorem dX8_tell_60 : decode cX8_tell 60 = .ok (.iconst (-1), 1) := by decide +kernel
theorem dX8_tell_61 : decode cX8_tell 61 = .ok (.ireturn, 1) := by decide +kernel
theorem dX8_tell_62 : decode cX8_tell 62 = .ok (.aload_n 0, 1) := by decide +kernel
theorem dX8_tell_63 : decode cX8_tell 63 = .ok (.getfield 7, 3) := by decide +kernel
theorem dX8_tell_66 : decode cX8_tell 66 = .ok (.bipush 9, 2) := by decide +kernel
theorem dX8_tell_68 : decode cX8_tell 68 = .ok (.iload_n 1, 1) := by decide +kernel
theorem dX8_tell_69 : decode cX8_tell 69 = .ok (.iadd, 1) := by decide +kernel
theorem dX8_tell_70 : decode cX8_tell 70 = .ok (.iaload, 1) := by decide +kernel
theorem dX8_tell_71 : decode cX8_tell 71 = .ok (.istore 4, 2) := by decide +kernel
theorem dX8_tell_73 : decode cX8_tell 73 = .ok (.iload 4, 2) := by decide +kernel
theorem dX8_tell_75 : decode cX8_tell 75 = .ok (.iload_n 2, 1) := by decide +kernel
theorem dX8_tell_76 : decode cX8_tell 76 = .ok (.if_icmp .ne 6, 3) := by decide +kernel
theorem dX8_tell_79 : decode cX8_tell 79 = .ok (.bipush (-2), 2) := by decide +kernel
theorem dX8_tell_81 : decode cX8_tell 81 = .ok (.ireturn, 1) := by decide +kernel
theorem dX8_tell_82 : decode cX8_tell 82 = .ok (.aload_n 0, 1) := by decide +kernel
theorem dX8_tell_83 : decode cX8_tell 83 = .ok (.invokevirtual 120, 3) := by decide +kernel
theorem dX8_tell_86 : decode cX8_tell 86 = .ok (.aload_n 0, 1) := by decide +kernel
theorem dX8_tell_87 : decode cX8_tell 87 = .ok (.getfield 7, 3) := by decide +kernel
theorem dX8_tell_90 : decode cX8_tell 90 = .ok (.bipush 9, 2) := by decide +kernel
theorem dX8_tell_92 : decode cX8_tell 92 = .ok (.iload_n 1, 1) := by decide +kernel
theorem dX8_tell_93 : decode cX8_tell 93 = .ok (.iadd, 1) := by decide +kernel
theorem dX8_tell_94 : decode cX8_tell 94 = .ok (.iload_n 2, 1) := by decide +kernel
theorem dX8_tell_95 : decode cX8_tell 95 = .ok (.iastore, 1) := by decide +kernel
theorem dX8_tell_96 : decode cX8_tell 96 = .ok (.iload 4, 2) := by decide +kernel
theorem dX8_tell_98 : decode cX8_tell 98 = .ok (.ireturn, 1) := by decide +kernel
set_option maxRecDepth 20000 in
theorem ggX8_hazard_X8_leftOf : GoodIn wsX8_hazard wsX8_leftOf := goodIn_r _ [6, 1, 7, 8, 5, 9, 19, 20, 21, 22, 23, 24, 25, 26, 27, 28, 29, 30, 31, 32, 33, 34, 35, 36, 37, 38, 39, 40, 41, 42, 43, 44, 45, 46, 47, 48, 49, 50, 51] (by decide +kernel) (by decide +kernel)
set_option maxRecDepth 20000 in
theorem gX8_hazard_X8_leftOf : GoodIn wsX8_hazard (wsV RX8 116 RX8 yX8_leftOf wsX8_leftOf) := goodIn_app (goodIn_of _ (by decide +kernel)) ggX8_hazard_X8_leftOf
set_option maxRecDepth 20000 in
theorem ggX8_hazard_X8_becomes : GoodIn wsX8_hazard wsX8_becomes := goodIn_r _ [13, 14, 15, 16, 17, 5, 18, 19, 20, 21, 22, 23, 24, 25, 26, 27, 28, 29, 30, 31, 32, 33, 34, 35, 36, 37, 38, 39, 40, 41, 42, 43, 44, 45, 46, 47, 48, 49, 50, 51] (by decide +kernel) (by decide +kernel)
set_option maxRecDepth 20000 in
theorem gX8_hazard_X8_becomes : GoodIn wsX8_hazard (wsV RX8 90 RX8 yX8_becomes wsX8_becomes) := goodIn_app (goodIn_of _ (by decide +kernel)) ggX8_hazard_X8_becomes
theorem dX8_hazard_0 : decode cX8_hazard 0 = .ok (.aload_n 0, 1) := by decide +kernel
theorem dX8_hazard_1 : decode cX8_hazard 1 = .ok (.aload_n 0, 1) := by decide +kernel
theorem dX8_hazard_2 : decode cX8_hazard 2 = .ok (.getfield 7, 3) := by decide +kernel
theorem dX8_hazard_5 : decode cX8_hazard 5 = .ok (.iload_n 1, 1) := by decide +kernel
theorem dX8_hazard_6 : decode cX8_hazard 6 = .ok (.iaload, 1) := by decide +kernel
theorem dX8_hazard_7 : decode cX8_hazard 7 = .ok (.i2l, 1) := by decide +kernel
theorem dX8_hazard_8 : decode cX8_hazard 8 = .ok (.aload_n 0, 1) := by decide +kernel
theorem dX8_hazard_9 : decode cX8_hazard 9 = .ok (.iload_n 1, 1) := by decide +kernel
theorem dX8_hazard_10 : decode cX8_hazard 10 = .ok (.iconst 1, 1) := by decide +kernel
theorem dX8_hazard_11 : decode cX8_hazard 11 = .ok (.isub, 1) := by decide +kernel
theorem dX8_hazard_12 : decode cX8_hazard 12 = .ok (.invokevirtual 116, 3) := by decide +kernel
theorem dX8_hazard_15 : decode cX8_hazard 15 = .ok (.i2l, 1) := by decide +kernel
theorem dX8_hazard_16 : decode cX8_hazard 16 = .ok (.invokevirtual 90, 3) := by decide +kernel
theorem dX8_hazard_19 : decode cX8_hazard 19 = .ok (.return_, 1) := by decide +kernel
set_option maxRecDepth 20000 in
theorem ggX8_age_X8_isAge : GoodIn wsX8_age wsX8_isAge := goodIn_r _ [7, 2, 8, 9, 6, 10, 35, 36, 37, 38, 39, 40, 41, 42, 43, 44, 45, 46, 47, 48, 49, 50, 51, 52, 53, 54, 55, 56, 57, 58, 59, 60, 61, 62, 63, 64, 65, 66, 67] (by decide +kernel) (by decide +kernel)
set_option maxRecDepth 20000 in
theorem gX8_age_X8_isAge : GoodIn wsX8_age (wsV RX8 110 RX8 yX8_isAge wsX8_isAge) := goodIn_app (goodIn_of _ (by decide +kernel)) ggX8_age_X8_isAge
set_option maxRecDepth 20000 in
theorem ggX8_age_X8_in : GoodIn wsX8_age wsX8_in := goodIn_r _ [10] (by decide +kernel) (by decide +kernel)
set_option maxRecDepth 20000 in
theorem gX8_age_X8_in : GoodIn wsX8_age (va_wsS RX8 106 yX8_in wsX8_in) := goodIn_app (goodIn_of _ (by decide +kernel)) ggX8_age_X8_in
set_option maxRecDepth 20000 in
theorem ggX8_age_X8_hazard : GoodIn wsX8_age wsX8_hazard := goodIn_r _ [14, 2, 15, 16, 17, 6, 18, 19, 20, 21, 22, 23, 24, 25, 26, 27, 28, 29, 30, 35, 36, 37, 38, 39, 40, 41, 42, 43, 44, 45, 46, 47, 48, 49, 50, 51, 52, 53, 54, 55, 56, 57, 58, 59, 60, 61, 62, 63, 64, 65, 66, 67] (by decide +kernel) (by decide +kernel)
set_option maxRecDepth 20000 in
theorem gX8_age_X8_hazard : GoodIn wsX8_age (wsV RX8 132 RX8 yX8_hazard wsX8_hazard) := goodIn_app (goodIn_of _ (by decide +kernel)) ggX8_age_X8_hazard
set_option maxRecDepth 20000 in
theorem ggX8_age_X8_told : GoodIn wsX8_age wsX8_told := goodIn_r _ [34, 26, 27, 35, 36, 37, 38, 39, 40, 41, 42, 43, 44, 45, 46, 47, 48, 49, 50, 51, 52, 53, 54, 55, 56, 57, 58, 59, 60, 61, 62, 63, 64, 65, 66, 67] (by decide +kernel) (by decide +kernel)
set_option maxRecDepth 20000 in
theorem gX8_age_X8_told : GoodIn wsX8_age (wsV RX8 136 RX8 yX8_told wsX8_told) := goodIn_app (goodIn_of _ (by decide +kernel)) ggX8_age_X8_told
set_option maxRecDepth 20000 in
theorem ggX8_age_X8_leftOf : GoodIn wsX8_age wsX8_leftOf := goodIn_r _ [18, 2, 19, 20, 6, 21, 35, 36, 37, 38, 39, 40, 41, 42, 43, 44, 45, 46, 47, 48, 49, 50, 51, 52, 53, 54, 55, 56, 57, 58, 59, 60, 61, 62, 63, 64, 65, 66, 67] (by decide +kernel) (by decide +kernel)
set_option maxRecDepth 20000 in
theorem gX8_age_X8_leftOf : GoodIn wsX8_age (wsV RX8 116 RX8 yX8_leftOf wsX8_leftOf) := goodIn_app (goodIn_of _ (by decide +kernel)) ggX8_age_X8_leftOf
theorem dX8_age_0 : decode cX8_age 0 = .ok (.aload_n 0, 1) := by decide +kernel
theorem dX8_age_1 : decode cX8_age 1 = .ok (.iload_n 1, 1) := by decide +kernel
theorem dX8_age_2 : decode cX8_age 2 = .ok (.invokevirtual 110, 3) := by decide +kernel
theorem dX8_age_5 : decode cX8_age 5 = .ok (.ifCond .eq 15, 3) := by decide +kernel
theorem dX8_age_8 : decode cX8_age 8 = .ok (.iload_n 2, 1) := by decide +kernel
theorem dX8_age_9 : decode cX8_age 9 = .ok (.i2l, 1) := by decide +kernel
theorem dX8_age_10 : decode cX8_age 10 = .ok (.lconst 0, 1) := by decide +kernel
theorem dX8_age_11 : decode cX8_age 11 = .ok (.ldc2_w 130, 3) := by decide +kernel
theorem dX8_age_14 : decode cX8_age 14 = .ok (.invokestatic 106, 3) := by decide +kernel
theorem dX8_age_17 : decode cX8_age 17 = .ok (.ifCond .ne 5, 3) := by decide +kernel
theorem dX8_age_20 : decode cX8_age 20 = .ok (.iconst (-1), 1) := by decide +kernel
theorem dX8_age_21 : decode cX8_age 21 = .ok (.ireturn, 1) := by decide +kernel
theorem dX8_age_22 : decode cX8_age 22 = .ok (.aload_n 0, 1) := by decide +kernel
theorem dX8_age_23 : decode cX8_age 23 = .ok (.iload_n 1, 1) := by decide +kernel
theorem dX8_age_24 : decode cX8_age 24 = .ok (.invokevirtual 132, 3) := by decide +kernel
theorem dX8_age_27 : decode cX8_age 27 = .ok (.iload_n 2, 1) := by decide +kernel
theorem dX8_age_28 : decode cX8_age 28 = .ok (.iconst 2, 1) := by decide +kernel
theorem dX8_age_29 : decode cX8_age 29 = .ok (.if_icmp .ge 12, 3) := by decide +kernel
theorem dX8_age_32 : decode cX8_age 32 = .ok (.aload_n 0, 1) := by decide +kernel
theorem dX8_age_33 : decode cX8_age 33 = .ok (.iload_n 2, 1) := by decide +kernel
theorem dX8_age_34 : decode cX8_age 34 = .ok (.invokevirtual 136, 3) := by decide +kernel
theorem dX8_age_37 : decode cX8_age 37 = .ok (.l2i, 1) := by decide +kernel
theorem dX8_age_38 : decode cX8_age 38 = .ok (.goto 22, 3) := by decide +kernel
theorem dX8_age_41 : decode cX8_age 41 = .ok (.iload_n 2, 1) := by decide +kernel
theorem dX8_age_42 : decode cX8_age 42 = .ok (.iconst 2, 1) := by decide +kernel
theorem dX8_age_43 : decode cX8_age 43 = .ok (.if_icmp .ne 12, 3) := by decide +kernel
theorem dX8_age_46 : decode cX8_age 46 = .ok (.aload_n 0, 1) := by decide +kernel
theorem dX8_age_47 : decode cX8_age 47 = .ok (.getfield 7, 3) := by decide +kernel
theorem dX8_age_50 : decode cX8_age 50 = .ok (.iload_n 1, 1) := by decide +kernel
theorem dX8_age_51 : decode cX8_age 51 = .ok (.iaload, 1) := by decide +kernel
theorem dX8_age_52 : decode cX8_age 52 = .ok (.goto 8, 3) := by decide +kernel
theorem dX8_age_55 : decode cX8_age 55 = .ok (.aload_n 0, 1) := by decide +kernel
theorem dX8_age_56 : decode cX8_age 56 = .ok (.iload_n 1, 1) := by decide +kernel
theorem dX8_age_57 : decode cX8_age 57 = .ok (.invokevirtual 116, 3) := by decide +kernel
theorem dX8_age_60 : decode cX8_age 60 = .ok (.ireturn, 1) := by decide +kernel
set_option maxRecDepth 20000 in
theorem ggX8_isSteady_X8_hazard : GoodIn wsX8_isSteady wsX8_hazard := goodIn_r _ [8, 1, 9, 10, 11, 7, 12, 13, 14, 15, 16, 17, 18, 19, 2, 3, 20, 21, 22, 26, 27, 28, 29, 30, 31, 32, 33, 34, 35, 36, 37, 38, 39, 40, 41, 42, 43, 44, 45, 46, 47, 48, 49, 50, 51, 52, 53, 54, 55, 56, 57, 58] (by decide +kernel) (by decide +kernel)
set_option maxRecDepth 20000 in
theorem gX8_isSteady_X8_hazard : GoodIn wsX8_isSteady (wsV RX8 132 RX8 yX8_hazard wsX8_hazard) := goodIn_app (goodIn_of _ (by decide +kernel)) ggX8_isSteady_X8_hazard
set_option maxRecDepth 20000 in
theorem ggX8_isSteady_X8_isLess : GoodIn wsX8_isSteady wsX8_isLess := goodIn_r _ [25] (by decide +kernel) (by decide +kernel)
set_option maxRecDepth 20000 in
theorem gX8_isSteady_X8_isLess : GoodIn wsX8_isSteady (va_wsS RX8 102 yX8_isLess wsX8_isLess) := goodIn_app (goodIn_of _ (by decide +kernel)) ggX8_isSteady_X8_isLess
theorem dX8_isSteady_0 : decode cX8_isSteady 0 = .ok (.iconst 1, 1) := by decide +kernel
theorem dX8_isSteady_1 : decode cX8_isSteady 1 = .ok (.istore_n 2, 1) := by decide +kernel
theorem dX8_isSteady_2 : decode cX8_isSteady 2 = .ok (.iconst 2, 1) := by decide +kernel
theorem dX8_isSteady_3 : decode cX8_isSteady 3 = .ok (.istore_n 3, 1) := by decide +kernel
theorem dX8_isSteady_4 : decode cX8_isSteady 4 = .ok (.iload_n 3, 1) := by decide +kernel
theorem dX8_isSteady_5 : decode cX8_isSteady 5 = .ok (.aload_n 0, 1) := by decide +kernel
theorem dX8_isSteady_6 : decode cX8_isSteady 6 = .ok (.getfield 7, 3) := by decide +kernel
theorem dX8_isSteady_9 : decode cX8_isSteady 9 = .ok (.iconst 0, 1) := by decide +kernel
theorem dX8_isSteady_10 : decode cX8_isSteady 10 = .ok (.iaload, 1) := by decide +kernel
theorem dX8_isSteady_11 : decode cX8_isSteady 11 = .ok (.iload_n 1, 1) := by decide +kernel
theorem dX8_isSteady_12 : decode cX8_isSteady 12 = .ok (.isub, 1) := by decide +kernel
theorem dX8_isSteady_13 : decode cX8_isSteady 13 = .ok (.if_icmp .gt 86, 3) := by decide +kernel
theorem dX8_isSteady_16 : decode cX8_isSteady 16 = .ok (.aload_n 0, 1) := by decide +kernel
theorem dX8_isSteady_17 : decode cX8_isSteady 17 = .ok (.iload_n 3, 1) := by decide +kernel
theorem dX8_isSteady_18 : decode cX8_isSteady 18 = .ok (.invokevirtual 132, 3) := by decide +kernel
theorem dX8_isSteady_21 : decode cX8_isSteady 21 = .ok (.aload_n 0, 1) := by decide +kernel
theorem dX8_isSteady_22 : decode cX8_isSteady 22 = .ok (.getfield 83, 3) := by decide +kernel
theorem dX8_isSteady_25 : decode cX8_isSteady 25 = .ok (.lstore 4, 2) := by decide +kernel
theorem dX8_isSteady_27 : decode cX8_isSteady 27 = .ok (.aload_n 0, 1) := by decide +kernel
theorem dX8_isSteady_28 : decode cX8_isSteady 28 = .ok (.getfield 87, 3) := by decide +kernel
theorem dX8_isSteady_31 : decode cX8_isSteady 31 = .ok (.lstore 6, 2) := by decide +kernel
theorem dX8_isSteady_33 : decode cX8_isSteady 33 = .ok (.aload_n 0, 1) := by decide +kernel
theorem dX8_isSteady_34 : decode cX8_isSteady 34 = .ok (.iload_n 3, 1) := by decide +kernel
theorem dX8_isSteady_35 : decode cX8_isSteady 35 = .ok (.iconst 1, 1) := by decide +kernel
theorem dX8_isSteady_36 : decode cX8_isSteady 36 = .ok (.isub, 1) := by decide +kernel
theorem dX8_isSteady_37 : decode cX8_isSteady 37 = .ok (.invokevirtual 132, 3) := by decide +kernel
theorem dX8_isSteady_40 : decode cX8_isSteady 40 = .ok (.iload_n 2, 1) := by decide +kernel
theorem dX8_isSteady_41 : decode cX8_isSteady 41 = .ok (.ifCond .eq 50, 3) := by decide +kernel
theorem dX8_isSteady_44 : decode cX8_isSteady 44 = .ok (.iload_n 1, 1) := by decide +kernel
theorem dX8_isSteady_45 : decode cX8_isSteady 45 = .ok (.ifCond .ne 24, 3) := by decide +kernel
theorem dX8_isSteady_48 : decode cX8_isSteady 48 = .ok (.lload 4, 2) := by decide +kernel
theorem dX8_isSteady_50 : decode cX8_isSteady 50 = .ok (.lload 6, 2) := by decide +kernel
theorem dX8_isSteady_52 : decode cX8_isSteady 52 = .ok (.aload_n 0, 1) := by decide +kernel
theorem dX8_isSteady_53 : decode cX8_isSteady 53 = .ok (.getfield 83, 3) := by decide +kernel
theorem dX8_isSteady_56 : decode cX8_isSteady 56 = .ok (.aload_n 0, 1) := by decide +kernel
theorem dX8_isSteady_57 : decode cX8_isSteady 57 = .ok (.getfield 87, 3) := by decide +kernel
theorem dX8_isSteady_60 : decode cX8_isSteady 60 = .ok (.invokestatic 102, 3) := by decide +kernel
theorem dX8_isSteady_63 : decode cX8_isSteady 63 = .ok (.ifCond .ne 28, 3) := by decide +kernel
theorem dX8_isSteady_66 : decode cX8_isSteady 66 = .ok (.goto 21, 3) := by decide +kernel
theorem dX8_isSteady_69 : decode cX8_isSteady 69 = .ok (.aload_n 0, 1) := by decide +kernel
theorem dX8_isSteady_70 : decode cX8_isSteady 70 = .ok (.getfield 83, 3) := by decide +kernel
theorem dX8_isSteady_73 : decode cX8_isSteady 73 = .ok (.aload_n 0, 1) := by decide +kernel
theorem dX8_isSteady_74 : decode cX8_isSteady 74 = .ok (.getfield 87, 3) := by decide +kernel
theorem dX8_isSteady_77 : decode cX8_isSteady 77 = .ok (.lload 4, 2) := by decide +kernel
theorem dX8_isSteady_79 : decode cX8_isSteady 79 = .ok (.lload 6, 2) := by decide +kernel
theorem dX8_isSteady_81 : decode cX8_isSteady 81 = .ok (.invokestatic 102, 3) := by decide +kernel
theorem dX8_isSteady_84 : decode cX8_isSteady 84 = .ok (.ifCond .ne 7, 3) := by decide +kernel
theorem dX8_isSteady_87 : decode cX8_isSteady 87 = .ok (.iconst 1, 1) := by decide +kernel
theorem dX8_isSteady_88 : decode cX8_isSteady 88 = .ok (.goto 4, 3) := by decide +kernel
theorem dX8_isSteady_91 : decode cX8_isSteady 91 = .ok (.iconst 0, 1) := by decide +kernel
theorem dX8_isSteady_92 : decode cX8_isSteady 92 = .ok (.istore_n 2, 1) := by decide +kernel
theorem dX8_isSteady_93 : decode cX8_isSteady 93 = .ok (.iinc 3 1, 3) := by decide +kernel
theorem dX8_isSteady_96 : decode cX8_isSteady 96 = .ok (.goto (-92), 3) := by decide +kernel
theorem dX8_isSteady_99 : decode cX8_isSteady 99 = .ok (.iload_n 2, 1) := by decide +kernel
theorem dX8_isSteady_100 : decode cX8_isSteady 100 = .ok (.ireturn, 1) := by decide +kernel
set_option maxRecDepth 20000 in
theorem ggX8_mean_X8_in : GoodIn wsX8_mean wsX8_in := goodIn_r _ [5] (by decide +kernel) (by decide +kernel)
set_option maxRecDepth 20000 in
theorem gX8_mean_X8_in : GoodIn wsX8_mean (va_wsS RX8 106 yX8_in wsX8_in) := goodIn_app (goodIn_of _ (by decide +kernel)) ggX8_mean_X8_in
set_option maxRecDepth 20000 in
theorem ggX8_mean_X8_leftOf : GoodIn wsX8_mean wsX8_leftOf := goodIn_r _ [9, 1, 10, 11, 4, 12, 26, 27, 28, 29, 30, 31, 32, 33, 34, 35, 36, 37, 38, 39, 40, 41, 42, 43, 44, 45, 46, 47, 48, 49, 50, 51, 52, 53, 54, 55, 56, 57, 58] (by decide +kernel) (by decide +kernel)
set_option maxRecDepth 20000 in
theorem gX8_mean_X8_leftOf : GoodIn wsX8_mean (wsV RX8 116 RX8 yX8_leftOf wsX8_leftOf) := goodIn_app (goodIn_of _ (by decide +kernel)) ggX8_mean_X8_leftOf
set_option maxRecDepth 20000 in
theorem ggX8_mean_X8_becomes : GoodIn wsX8_mean wsX8_becomes := goodIn_r _ [16, 17, 18, 19, 20, 4, 21, 26, 27, 28, 29, 30, 31, 32, 33, 34, 35, 36, 37, 38, 39, 40, 41, 42, 43, 44, 45, 46, 47, 48, 49, 50, 51, 52, 53, 54, 55, 56, 57, 58] (by decide +kernel) (by decide +kernel)
set_option maxRecDepth 20000 in
theorem gX8_mean_X8_becomes : GoodIn wsX8_mean (wsV RX8 90 RX8 yX8_becomes wsX8_becomes) := goodIn_app (goodIn_of _ (by decide +kernel)) ggX8_mean_X8_becomes
set_option maxRecDepth 20000 in
theorem ggX8_mean_X8_told : GoodIn wsX8_mean wsX8_told := goodIn_r _ [25, 17, 18, 26, 27, 28, 29, 30, 31, 32, 33, 34, 35, 36, 37, 38, 39, 40, 41, 42, 43, 44, 45, 46, 47, 48, 49, 50, 51, 52, 53, 54, 55, 56, 57, 58] (by decide +kernel) (by decide +kernel)
set_option maxRecDepth 20000 in
theorem gX8_mean_X8_told : GoodIn wsX8_mean (wsV RX8 136 RX8 yX8_told wsX8_told) := goodIn_app (goodIn_of _ (by decide +kernel)) ggX8_mean_X8_told
theorem dX8_mean_0 : decode cX8_mean 0 = .ok (.iload_n 1, 1) := by decide +kernel
theorem dX8_mean_1 : decode cX8_mean 1 = .ok (.i2l, 1) := by decide +kernel
theorem dX8_mean_2 : decode cX8_mean 2 = .ok (.lconst 0, 1) := by decide +kernel
theorem dX8_mean_3 : decode cX8_mean 3 = .ok (.lconst 1, 1) := by decide +kernel
theorem dX8_mean_4 : decode cX8_mean 4 = .ok (.invokestatic 106, 3) := by decide +kernel
theorem dX8_mean_7 : decode cX8_mean 7 = .ok (.ifCond .ne 5, 3) := by decide +kernel
theorem dX8_mean_10 : decode cX8_mean 10 = .ok (.iconst (-1), 1) := by decide +kernel
theorem dX8_mean_11 : decode cX8_mean 11 = .ok (.ireturn, 1) := by decide +kernel
theorem dX8_mean_12 : decode cX8_mean 12 = .ok (.iconst 0, 1) := by decide +kernel
theorem dX8_mean_13 : decode cX8_mean 13 = .ok (.istore_n 2, 1) := by decide +kernel
theorem dX8_mean_14 : decode cX8_mean 14 = .ok (.iconst 0, 1) := by decide +kernel
theorem dX8_mean_15 : decode cX8_mean 15 = .ok (.istore_n 3, 1) := by decide +kernel
theorem dX8_mean_16 : decode cX8_mean 16 = .ok (.iload_n 3, 1) := by decide +kernel
theorem dX8_mean_17 : decode cX8_mean 17 = .ok (.aload_n 0, 1) := by decide +kernel
theorem dX8_mean_18 : decode cX8_mean 18 = .ok (.getfield 7, 3) := by decide +kernel
theorem dX8_mean_21 : decode cX8_mean 21 = .ok (.iconst 0, 1) := by decide +kernel
theorem dX8_mean_22 : decode cX8_mean 22 = .ok (.iaload, 1) := by decide +kernel
theorem dX8_mean_23 : decode cX8_mean 23 = .ok (.if_icmp .ge 17, 3) := by decide +kernel
theorem dX8_mean_26 : decode cX8_mean 26 = .ok (.iload_n 2, 1) := by decide +kernel
theorem dX8_mean_27 : decode cX8_mean 27 = .ok (.aload_n 0, 1) := by decide +kernel
theorem dX8_mean_28 : decode cX8_mean 28 = .ok (.iload_n 3, 1) := by decide +kernel
theorem dX8_mean_29 : decode cX8_mean 29 = .ok (.invokevirtual 116, 3) := by decide +kernel
theorem dX8_mean_32 : decode cX8_mean 32 = .ok (.iadd, 1) := by decide +kernel
theorem dX8_mean_33 : decode cX8_mean 33 = .ok (.istore_n 2, 1) := by decide +kernel
theorem dX8_mean_34 : decode cX8_mean 34 = .ok (.iinc 3 1, 3) := by decide +kernel
theorem dX8_mean_37 : decode cX8_mean 37 = .ok (.goto (-21), 3) := by decide +kernel
theorem dX8_mean_40 : decode cX8_mean 40 = .ok (.aload_n 0, 1) := by decide +kernel
theorem dX8_mean_41 : decode cX8_mean 41 = .ok (.iload_n 2, 1) := by decide +kernel
theorem dX8_mean_42 : decode cX8_mean 42 = .ok (.i2l, 1) := by decide +kernel
theorem dX8_mean_43 : decode cX8_mean 43 = .ok (.aload_n 0, 1) := by decide +kernel
theorem dX8_mean_44 : decode cX8_mean 44 = .ok (.iconst 0, 1) := by decide +kernel
theorem dX8_mean_45 : decode cX8_mean 45 = .ok (.invokevirtual 116, 3) := by decide +kernel
theorem dX8_mean_48 : decode cX8_mean 48 = .ok (.i2l, 1) := by decide +kernel
theorem dX8_mean_49 : decode cX8_mean 49 = .ok (.invokevirtual 90, 3) := by decide +kernel
theorem dX8_mean_52 : decode cX8_mean 52 = .ok (.aload_n 0, 1) := by decide +kernel
theorem dX8_mean_53 : decode cX8_mean 53 = .ok (.iload_n 1, 1) := by decide +kernel
theorem dX8_mean_54 : decode cX8_mean 54 = .ok (.invokevirtual 136, 3) := by decide +kernel
theorem dX8_mean_57 : decode cX8_mean 57 = .ok (.l2i, 1) := by decide +kernel
theorem dX8_mean_58 : decode cX8_mean 58 = .ok (.ireturn, 1) := by decide +kernel
set_option maxRecDepth 20000 in
theorem ggX8_rate_X8_isAge : GoodIn wsX8_rate wsX8_isAge := goodIn_r _ [6, 1, 7, 8, 5, 9, 30, 31, 32, 33, 34, 35, 36, 37, 38, 39, 40, 41, 42, 43, 44, 45, 46, 47, 48, 49, 50, 51, 52, 53, 54, 55, 56, 57, 58, 59, 60, 61, 62] (by decide +kernel) (by decide +kernel)
set_option maxRecDepth 20000 in
theorem gX8_rate_X8_isAge : GoodIn wsX8_rate (wsV RX8 110 RX8 yX8_isAge wsX8_isAge) := goodIn_app (goodIn_of _ (by decide +kernel)) ggX8_rate_X8_isAge
set_option maxRecDepth 20000 in
theorem ggX8_rate_X8_in : GoodIn wsX8_rate wsX8_in := goodIn_r _ [9] (by decide +kernel) (by decide +kernel)
set_option maxRecDepth 20000 in
theorem gX8_rate_X8_in : GoodIn wsX8_rate (va_wsS RX8 106 yX8_in wsX8_in) := goodIn_app (goodIn_of _ (by decide +kernel)) ggX8_rate_X8_in
set_option maxRecDepth 20000 in
theorem ggX8_rate_X8_rates : GoodIn wsX8_rate wsX8_rates := goodIn_r _ [13, 1, 14, 15, 5, 16, 17, 18, 19, 20, 21, 22, 23, 24, 25, 30, 31, 32, 33, 34, 35, 36, 37, 38, 39, 40, 41, 42, 43, 44, 45, 46, 47, 48, 49, 50, 51, 52, 53, 54, 55, 56, 57, 58, 59, 60, 61, 62] (by decide +kernel) (by decide +kernel)
set_option maxRecDepth 20000 in
theorem gX8_rate_X8_rates : GoodIn wsX8_rate (wsV RX8 98 RX8 yX8_rates wsX8_rates) := goodIn_app (goodIn_of _ (by decide +kernel)) ggX8_rate_X8_rates
set_option maxRecDepth 20000 in
theorem ggX8_rate_X8_told : GoodIn wsX8_rate wsX8_told := goodIn_r _ [29, 21, 22, 30, 31, 32, 33, 34, 35, 36, 37, 38, 39, 40, 41, 42, 43, 44, 45, 46, 47, 48, 49, 50, 51, 52, 53, 54, 55, 56, 57, 58, 59, 60, 61, 62] (by decide +kernel) (by decide +kernel)
set_option maxRecDepth 20000 in
theorem gX8_rate_X8_told : GoodIn wsX8_rate (wsV RX8 136 RX8 yX8_told wsX8_told) := goodIn_app (goodIn_of _ (by decide +kernel)) ggX8_rate_X8_told
theorem dX8_rate_0 : decode cX8_rate 0 = .ok (.aload_n 0, 1) := by decide +kernel
theorem dX8_rate_1 : decode cX8_rate 1 = .ok (.iload_n 1, 1) := by decide +kernel
theorem dX8_rate_2 : decode cX8_rate 2 = .ok (.invokevirtual 110, 3) := by decide +kernel
theorem dX8_rate_5 : decode cX8_rate 5 = .ok (.ifCond .eq 13, 3) := by decide +kernel
theorem dX8_rate_8 : decode cX8_rate 8 = .ok (.iload_n 2, 1) := by decide +kernel
theorem dX8_rate_9 : decode cX8_rate 9 = .ok (.i2l, 1) := by decide +kernel
theorem dX8_rate_10 : decode cX8_rate 10 = .ok (.lconst 0, 1) := by decide +kernel
theorem dX8_rate_11 : decode cX8_rate 11 = .ok (.lconst 1, 1) := by decide +kernel
theorem dX8_rate_12 : decode cX8_rate 12 = .ok (.invokestatic 106, 3) := by decide +kernel
theorem dX8_rate_15 : decode cX8_rate 15 = .ok (.ifCond .ne 5, 3) := by decide +kernel
theorem dX8_rate_18 : decode cX8_rate 18 = .ok (.iconst (-1), 1) := by decide +kernel
theorem dX8_rate_19 : decode cX8_rate 19 = .ok (.ireturn, 1) := by decide +kernel
theorem dX8_rate_20 : decode cX8_rate 20 = .ok (.aload_n 0, 1) := by decide +kernel
theorem dX8_rate_21 : decode cX8_rate 21 = .ok (.aload_n 0, 1) := by decide +kernel
theorem dX8_rate_22 : decode cX8_rate 22 = .ok (.getfield 7, 3) := by decide +kernel
theorem dX8_rate_25 : decode cX8_rate 25 = .ok (.aload_n 0, 1) := by decide +kernel
theorem dX8_rate_26 : decode cX8_rate 26 = .ok (.getfield 7, 3) := by decide +kernel
theorem dX8_rate_29 : decode cX8_rate 29 = .ok (.iconst 0, 1) := by decide +kernel
theorem dX8_rate_30 : decode cX8_rate 30 = .ok (.iaload, 1) := by decide +kernel
theorem dX8_rate_31 : decode cX8_rate 31 = .ok (.iload_n 1, 1) := by decide +kernel
theorem dX8_rate_32 : decode cX8_rate 32 = .ok (.invokevirtual 98, 3) := by decide +kernel
theorem dX8_rate_35 : decode cX8_rate 35 = .ok (.aload_n 0, 1) := by decide +kernel
theorem dX8_rate_36 : decode cX8_rate 36 = .ok (.iload_n 2, 1) := by decide +kernel
theorem dX8_rate_37 : decode cX8_rate 37 = .ok (.invokevirtual 136, 3) := by decide +kernel
theorem dX8_rate_40 : decode cX8_rate 40 = .ok (.l2i, 1) := by decide +kernel
theorem dX8_rate_41 : decode cX8_rate 41 = .ok (.ireturn, 1) := by decide +kernel
set_option maxRecDepth 20000 in
theorem ggX8_power_X8_leftOf : GoodIn wsX8_power wsX8_leftOf := goodIn_r _ [5, 6, 7, 8, 4, 9, 10, 11, 12, 13, 14, 15, 16, 17, 18, 19, 20, 21, 22, 23, 24, 25, 26, 27, 28, 29, 30, 31, 32, 33, 34, 35, 36, 37, 38, 39, 40, 41, 42] (by decide +kernel) (by decide +kernel)
set_option maxRecDepth 20000 in
theorem gX8_power_X8_leftOf : GoodIn wsX8_power (wsV RX8 116 RX8 yX8_leftOf wsX8_leftOf) := goodIn_app (goodIn_of _ (by decide +kernel)) ggX8_power_X8_leftOf
theorem dX8_power_0 : decode cX8_power 0 = .ok (.lconst 1, 1) := by decide +kernel
theorem dX8_power_1 : decode cX8_power 1 = .ok (.lstore_n 2, 1) := by decide +kernel
theorem dX8_power_2 : decode cX8_power 2 = .ok (.iconst 0, 1) := by decide +kernel
theorem dX8_power_3 : decode cX8_power 3 = .ok (.istore 4, 2) := by decide +kernel
theorem dX8_power_5 : decode cX8_power 5 = .ok (.iload 4, 2) := by decide +kernel
theorem dX8_power_7 : decode cX8_power 7 = .ok (.iload_n 1, 1) := by decide +kernel
theorem dX8_power_8 : decode cX8_power 8 = .ok (.if_icmp .ge 18, 3) := by decide +kernel
theorem dX8_power_11 : decode cX8_power 11 = .ok (.lload_n 2, 1) := by decide +kernel
theorem dX8_power_12 : decode cX8_power 12 = .ok (.aload_n 0, 1) := by decide +kernel
theorem dX8_power_13 : decode cX8_power 13 = .ok (.iconst 0, 1) := by decide +kernel
theorem dX8_power_14 : decode cX8_power 14 = .ok (.invokevirtual 116, 3) := by decide +kernel
theorem dX8_power_17 : decode cX8_power 17 = .ok (.i2l, 1) := by decide +kernel
theorem dX8_power_18 : decode cX8_power 18 = .ok (.lmul, 1) := by decide +kernel
theorem dX8_power_19 : decode cX8_power 19 = .ok (.lstore_n 2, 1) := by decide +kernel
theorem dX8_power_20 : decode cX8_power 20 = .ok (.iinc 4 1, 3) := by decide +kernel
theorem dX8_power_23 : decode cX8_power 23 = .ok (.goto (-18), 3) := by decide +kernel
theorem dX8_power_26 : decode cX8_power 26 = .ok (.lload_n 2, 1) := by decide +kernel
theorem dX8_power_27 : decode cX8_power 27 = .ok (.lreturn, 1) := by decide +kernel
set_option maxRecDepth 20000 in
theorem ggX8_laysFailing_X8_power : GoodIn wsX8_laysFailing wsX8_power := goodIn_r _ [7, 8, 9, 10, 6, 11, 2, 12, 13, 14, 15, 16, 17, 18, 19, 20, 21, 22, 23, 24, 25, 26, 27, 28, 29, 30, 31, 32, 33, 34, 35, 36, 37, 38, 39, 40, 41, 42, 43, 44, 45, 46, 47] (by decide +kernel) (by decide +kernel)
set_option maxRecDepth 20000 in
theorem gX8_laysFailing_X8_power : GoodIn wsX8_laysFailing (wsV RX8 140 RX8 yX8_power wsX8_power) := goodIn_app (goodIn_of _ (by decide +kernel)) ggX8_laysFailing_X8_power
theorem dX8_laysFailing_0 : decode cX8_laysFailing 0 = .ok (.aload_n 0, 1) := by decide +kernel
theorem dX8_laysFailing_1 : decode cX8_laysFailing 1 = .ok (.getfield 42, 3) := by decide +kernel
theorem dX8_laysFailing_4 : decode cX8_laysFailing 4 = .ok (.iconst 0, 1) := by decide +kernel
theorem dX8_laysFailing_5 : decode cX8_laysFailing 5 = .ok (.lconst 0, 1) := by decide +kernel
theorem dX8_laysFailing_6 : decode cX8_laysFailing 6 = .ok (.lastore, 1) := by decide +kernel
theorem dX8_laysFailing_7 : decode cX8_laysFailing 7 = .ok (.iconst 1, 1) := by decide +kernel
theorem dX8_laysFailing_8 : decode cX8_laysFailing 8 = .ok (.istore_n 1, 1) := by decide +kernel
theorem dX8_laysFailing_9 : decode cX8_laysFailing 9 = .ok (.iload_n 1, 1) := by decide +kernel
theorem dX8_laysFailing_10 : decode cX8_laysFailing 10 = .ok (.bipush 11, 2) := by decide +kernel
theorem dX8_laysFailing_12 : decode cX8_laysFailing 12 = .ok (.if_icmp .ge 82, 3) := by decide +kernel
theorem dX8_laysFailing_15 : decode cX8_laysFailing 15 = .ok (.lconst 0, 1) := by decide +kernel
theorem dX8_laysFailing_16 : decode cX8_laysFailing 16 = .ok (.lstore_n 2, 1) := by decide +kernel
theorem dX8_laysFailing_17 : decode cX8_laysFailing 17 = .ok (.iconst 1, 1) := by decide +kernel
theorem dX8_laysFailing_18 : decode cX8_laysFailing 18 = .ok (.istore 4, 2) := by decide +kernel
theorem dX8_laysFailing_20 : decode cX8_laysFailing 20 = .ok (.iload 4, 2) := by decide +kernel
theorem dX8_laysFailing_22 : decode cX8_laysFailing 22 = .ok (.iload_n 1, 1) := by decide +kernel
theorem dX8_laysFailing_23 : decode cX8_laysFailing 23 = .ok (.if_icmp .gt 58, 3) := by decide +kernel
theorem dX8_laysFailing_26 : decode cX8_laysFailing 26 = .ok (.iload 4, 2) := by decide +kernel
theorem dX8_laysFailing_28 : decode cX8_laysFailing 28 = .ok (.aload_n 0, 1) := by decide +kernel
theorem dX8_laysFailing_29 : decode cX8_laysFailing 29 = .ok (.getfield 7, 3) := by decide +kernel
theorem dX8_laysFailing_32 : decode cX8_laysFailing 32 = .ok (.iconst 0, 1) := by decide +kernel
theorem dX8_laysFailing_33 : decode cX8_laysFailing 33 = .ok (.iaload, 1) := by decide +kernel
theorem dX8_laysFailing_34 : decode cX8_laysFailing 34 = .ok (.if_icmp .gt 47, 3) := by decide +kernel
theorem dX8_laysFailing_37 : decode cX8_laysFailing 37 = .ok (.lload_n 2, 1) := by decide +kernel
theorem dX8_laysFailing_38 : decode cX8_laysFailing 38 = .ok (.aload_n 0, 1) := by decide +kernel
theorem dX8_laysFailing_39 : decode cX8_laysFailing 39 = .ok (.getfield 7, 3) := by decide +kernel
theorem dX8_laysFailing_42 : decode cX8_laysFailing 42 = .ok (.iload 4, 2) := by decide +kernel
theorem dX8_laysFailing_44 : decode cX8_laysFailing 44 = .ok (.iaload, 1) := by decide +kernel
theorem dX8_laysFailing_45 : decode cX8_laysFailing 45 = .ok (.i2l, 1) := by decide +kernel
theorem dX8_laysFailing_46 : decode cX8_laysFailing 46 = .ok (.aload_n 0, 1) := by decide +kernel
theorem dX8_laysFailing_47 : decode cX8_laysFailing 47 = .ok (.iload_n 1, 1) := by decide +kernel
theorem dX8_laysFailing_48 : decode cX8_laysFailing 48 = .ok (.iconst 1, 1) := by decide +kernel
theorem dX8_laysFailing_49 : decode cX8_laysFailing 49 = .ok (.isub, 1) := by decide +kernel
theorem dX8_laysFailing_50 : decode cX8_laysFailing 50 = .ok (.invokevirtual 140, 3) := by decide +kernel
theorem dX8_laysFailing_53 : decode cX8_laysFailing 53 = .ok (.aload_n 0, 1) := by decide +kernel
theorem dX8_laysFailing_54 : decode cX8_laysFailing 54 = .ok (.getfield 42, 3) := by decide +kernel
theorem dX8_laysFailing_57 : decode cX8_laysFailing 57 = .ok (.iload_n 1, 1) := by decide +kernel
theorem dX8_laysFailing_58 : decode cX8_laysFailing 58 = .ok (.iload 4, 2) := by decide +kernel
theorem dX8_laysFailing_60 : decode cX8_laysFailing 60 = .ok (.isub, 1) := by decide +kernel
theorem dX8_laysFailing_61 : decode cX8_laysFailing 61 = .ok (.laload, 1) := by decide +kernel
theorem dX8_laysFailing_62 : decode cX8_laysFailing 62 = .ok (.aload_n 0, 1) := by decide +kernel
theorem dX8_laysFailing_63 : decode cX8_laysFailing 63 = .ok (.iload 4, 2) := by decide +kernel
theorem dX8_laysFailing_65 : decode cX8_laysFailing 65 = .ok (.iconst 1, 1) := by decide +kernel
theorem dX8_laysFailing_66 : decode cX8_laysFailing 66 = .ok (.isub, 1) := by decide +kernel
theorem dX8_laysFailing_67 : decode cX8_laysFailing 67 = .ok (.invokevirtual 140, 3) := by decide +kernel
theorem dX8_laysFailing_70 : decode cX8_laysFailing 70 = .ok (.lmul, 1) := by decide +kernel
theorem dX8_laysFailing_71 : decode cX8_laysFailing 71 = .ok (.ladd, 1) := by decide +kernel
theorem dX8_laysFailing_72 : decode cX8_laysFailing 72 = .ok (.lmul, 1) := by decide +kernel
theorem dX8_laysFailing_73 : decode cX8_laysFailing 73 = .ok (.ladd, 1) := by decide +kernel
theorem dX8_laysFailing_74 : decode cX8_laysFailing 74 = .ok (.lstore_n 2, 1) := by decide +kernel
theorem dX8_laysFailing_75 : decode cX8_laysFailing 75 = .ok (.iinc 4 1, 3) := by decide +kernel
theorem dX8_laysFailing_78 : decode cX8_laysFailing 78 = .ok (.goto (-58), 3) := by decide +kernel
theorem dX8_laysFailing_81 : decode cX8_laysFailing 81 = .ok (.aload_n 0, 1) := by decide +kernel
theorem dX8_laysFailing_82 : decode cX8_laysFailing 82 = .ok (.getfield 42, 3) := by decide +kernel
theorem dX8_laysFailing_85 : decode cX8_laysFailing 85 = .ok (.iload_n 1, 1) := by decide +kernel
theorem dX8_laysFailing_86 : decode cX8_laysFailing 86 = .ok (.lload_n 2, 1) := by decide +kernel
theorem dX8_laysFailing_87 : decode cX8_laysFailing 87 = .ok (.lastore, 1) := by decide +kernel
theorem dX8_laysFailing_88 : decode cX8_laysFailing 88 = .ok (.iinc 1 1, 3) := by decide +kernel
theorem dX8_laysFailing_91 : decode cX8_laysFailing 91 = .ok (.goto (-82), 3) := by decide +kernel
theorem dX8_laysFailing_94 : decode cX8_laysFailing 94 = .ok (.return_, 1) := by decide +kernel
set_option maxRecDepth 20000 in
theorem ggX8_fails_X8_in : GoodIn wsX8_fails wsX8_in := goodIn_r _ [7] (by decide +kernel) (by decide +kernel)
set_option maxRecDepth 20000 in
theorem gX8_fails_X8_in : GoodIn wsX8_fails (va_wsS RX8 106 yX8_in wsX8_in) := goodIn_app (goodIn_of _ (by decide +kernel)) ggX8_fails_X8_in
set_option maxRecDepth 20000 in
theorem ggX8_fails_X8_laysFailing : GoodIn wsX8_fails wsX8_laysFailing := goodIn_r _ [11, 3, 12, 13, 14, 15, 6, 16, 17, 18, 19, 20, 21, 22, 23, 37, 38, 39, 40, 41, 42, 43, 44, 45, 46, 47, 48, 49, 50, 51, 52, 53, 54, 55, 56, 57, 58, 59, 60, 61, 62, 63, 64, 65, 66, 67, 68, 69] (by decide +kernel) (by decide +kernel)
set_option maxRecDepth 20000 in
theorem gX8_fails_X8_laysFailing : GoodIn wsX8_fails (wsV RX8 147 RX8 yX8_laysFailing wsX8_laysFailing) := goodIn_app (goodIn_of _ (by decide +kernel)) ggX8_fails_X8_laysFailing
set_option maxRecDepth 20000 in
theorem ggX8_fails_X8_power : GoodIn wsX8_fails wsX8_power := goodIn_r _ [16, 17, 18, 19, 6, 20, 12, 21, 22, 23, 37, 38, 39, 40, 41, 42, 43, 44, 45, 46, 47, 48, 49, 50, 51, 52, 53, 54, 55, 56, 57, 58, 59, 60, 61, 62, 63, 64, 65, 66, 67, 68, 69] (by decide +kernel) (by decide +kernel)
set_option maxRecDepth 20000 in
theorem gX8_fails_X8_power : GoodIn wsX8_fails (wsV RX8 140 RX8 yX8_power wsX8_power) := goodIn_app (goodIn_of _ (by decide +kernel)) ggX8_fails_X8_power
set_option maxRecDepth 20000 in
theorem ggX8_fails_X8_becomes : GoodIn wsX8_fails wsX8_becomes := goodIn_r _ [27, 28, 29, 30, 31, 6, 32, 37, 38, 39, 40, 41, 42, 43, 44, 45, 46, 47, 48, 49, 50, 51, 52, 53, 54, 55, 56, 57, 58, 59, 60, 61, 62, 63, 64, 65, 66, 67, 68, 69] (by decide +kernel) (by decide +kernel)
set_option maxRecDepth 20000 in
theorem gX8_fails_X8_becomes : GoodIn wsX8_fails (wsV RX8 90 RX8 yX8_becomes wsX8_becomes) := goodIn_app (goodIn_of _ (by decide +kernel)) ggX8_fails_X8_becomes
set_option maxRecDepth 20000 in
theorem ggX8_fails_X8_told : GoodIn wsX8_fails wsX8_told := goodIn_r _ [36, 28, 29, 37, 38, 39, 40, 41, 42, 43, 44, 45, 46, 47, 48, 49, 50, 51, 52, 53, 54, 55, 56, 57, 58, 59, 60, 61, 62, 63, 64, 65, 66, 67, 68, 69] (by decide +kernel) (by decide +kernel)
set_option maxRecDepth 20000 in
theorem gX8_fails_X8_told : GoodIn wsX8_fails (wsV RX8 136 RX8 yX8_told wsX8_told) := goodIn_app (goodIn_of _ (by decide +kernel)) ggX8_fails_X8_told
theorem dX8_fails_0 : decode cX8_fails 0 = .ok (.iload_n 1, 1) := by decide +kernel
theorem dX8_fails_1 : decode cX8_fails 1 = .ok (.i2l, 1) := by decide +kernel
theorem dX8_fails_2 : decode cX8_fails 2 = .ok (.lconst 0, 1) := by decide +kernel
theorem dX8_fails_3 : decode cX8_fails 3 = .ok (.ldc2_w 143, 3) := by decide +kernel
theorem dX8_fails_6 : decode cX8_fails 6 = .ok (.invokestatic 106, 3) := by decide +kernel
theorem dX8_fails_9 : decode cX8_fails 9 = .ok (.ifCond .eq 13, 3) := by decide +kernel
theorem dX8_fails_12 : decode cX8_fails 12 = .ok (.iload_n 2, 1) := by decide +kernel
theorem dX8_fails_13 : decode cX8_fails 13 = .ok (.i2l, 1) := by decide +kernel
theorem dX8_fails_14 : decode cX8_fails 14 = .ok (.lconst 0, 1) := by decide +kernel
theorem dX8_fails_15 : decode cX8_fails 15 = .ok (.lconst 1, 1) := by decide +kernel
theorem dX8_fails_16 : decode cX8_fails 16 = .ok (.invokestatic 106, 3) := by decide +kernel
theorem dX8_fails_19 : decode cX8_fails 19 = .ok (.ifCond .ne 7, 3) := by decide +kernel
theorem dX8_fails_22 : decode cX8_fails 22 = .ok (.ldc2_w 145, 3) := by decide +kernel
theorem dX8_fails_25 : decode cX8_fails 25 = .ok (.lreturn, 1) := by decide +kernel
theorem dX8_fails_26 : decode cX8_fails 26 = .ok (.aload_n 0, 1) := by decide +kernel
theorem dX8_fails_27 : decode cX8_fails 27 = .ok (.invokevirtual 147, 3) := by decide +kernel
theorem dX8_fails_30 : decode cX8_fails 30 = .ok (.aload_n 0, 1) := by decide +kernel
theorem dX8_fails_31 : decode cX8_fails 31 = .ok (.aload_n 0, 1) := by decide +kernel
theorem dX8_fails_32 : decode cX8_fails 32 = .ok (.getfield 42, 3) := by decide +kernel
theorem dX8_fails_35 : decode cX8_fails 35 = .ok (.iload_n 1, 1) := by decide +kernel
theorem dX8_fails_36 : decode cX8_fails 36 = .ok (.laload, 1) := by decide +kernel
theorem dX8_fails_37 : decode cX8_fails 37 = .ok (.aload_n 0, 1) := by decide +kernel
theorem dX8_fails_38 : decode cX8_fails 38 = .ok (.iload_n 1, 1) := by decide +kernel
theorem dX8_fails_39 : decode cX8_fails 39 = .ok (.invokevirtual 140, 3) := by decide +kernel
theorem dX8_fails_42 : decode cX8_fails 42 = .ok (.invokevirtual 90, 3) := by decide +kernel
theorem dX8_fails_45 : decode cX8_fails 45 = .ok (.aload_n 0, 1) := by decide +kernel
theorem dX8_fails_46 : decode cX8_fails 46 = .ok (.iload_n 2, 1) := by decide +kernel
theorem dX8_fails_47 : decode cX8_fails 47 = .ok (.invokevirtual 136, 3) := by decide +kernel
theorem dX8_fails_50 : decode cX8_fails 50 = .ok (.lreturn, 1) := by decide +kernel
set_option maxRecDepth 20000 in
theorem ggX8_blocks_X8_power : GoodIn wsX8_blocks wsX8_power := goodIn_r _ [7, 8, 9, 10, 6, 11, 1, 12, 13, 14, 24, 25, 26, 27, 28, 29, 30, 31, 32, 33, 34, 35, 36, 37, 38, 39, 40, 41, 42, 43, 44, 45, 46, 47, 48, 49, 50, 51, 52, 53, 54, 55, 56] (by decide +kernel) (by decide +kernel)
set_option maxRecDepth 20000 in
theorem gX8_blocks_X8_power : GoodIn wsX8_blocks (wsV RX8 140 RX8 yX8_power wsX8_power) := goodIn_app (goodIn_of _ (by decide +kernel)) ggX8_blocks_X8_power
set_option maxRecDepth 20000 in
theorem ggX8_blocks_X8_becomes : GoodIn wsX8_blocks wsX8_becomes := goodIn_r _ [18, 19, 20, 21, 22, 6, 23, 24, 25, 26, 27, 28, 29, 30, 31, 32, 33, 34, 35, 36, 37, 38, 39, 40, 41, 42, 43, 44, 45, 46, 47, 48, 49, 50, 51, 52, 53, 54, 55, 56] (by decide +kernel) (by decide +kernel)
set_option maxRecDepth 20000 in
theorem gX8_blocks_X8_becomes : GoodIn wsX8_blocks (wsV RX8 90 RX8 yX8_becomes wsX8_becomes) := goodIn_app (goodIn_of _ (by decide +kernel)) ggX8_blocks_X8_becomes
theorem dX8_blocks_0 : decode cX8_blocks 0 = .ok (.aload_n 0, 1) := by decide +kernel
theorem dX8_blocks_1 : decode cX8_blocks 1 = .ok (.aload_n 0, 1) := by decide +kernel
theorem dX8_blocks_2 : decode cX8_blocks 2 = .ok (.getfield 7, 3) := by decide +kernel
theorem dX8_blocks_5 : decode cX8_blocks 5 = .ok (.bipush 9, 2) := by decide +kernel
theorem dX8_blocks_7 : decode cX8_blocks 7 = .ok (.iaload, 1) := by decide +kernel
theorem dX8_blocks_8 : decode cX8_blocks 8 = .ok (.i2l, 1) := by decide +kernel
theorem dX8_blocks_9 : decode cX8_blocks 9 = .ok (.aload_n 0, 1) := by decide +kernel
theorem dX8_blocks_10 : decode cX8_blocks 10 = .ok (.getfield 42, 3) := by decide +kernel
theorem dX8_blocks_13 : decode cX8_blocks 13 = .ok (.iload_n 1, 1) := by decide +kernel
theorem dX8_blocks_14 : decode cX8_blocks 14 = .ok (.laload, 1) := by decide +kernel
theorem dX8_blocks_15 : decode cX8_blocks 15 = .ok (.lmul, 1) := by decide +kernel
theorem dX8_blocks_16 : decode cX8_blocks 16 = .ok (.aload_n 0, 1) := by decide +kernel
theorem dX8_blocks_17 : decode cX8_blocks 17 = .ok (.getfield 7, 3) := by decide +kernel
theorem dX8_blocks_20 : decode cX8_blocks 20 = .ok (.bipush 10, 2) := by decide +kernel
theorem dX8_blocks_22 : decode cX8_blocks 22 = .ok (.iaload, 1) := by decide +kernel
theorem dX8_blocks_23 : decode cX8_blocks 23 = .ok (.i2l, 1) := by decide +kernel
theorem dX8_blocks_24 : decode cX8_blocks 24 = .ok (.aload_n 0, 1) := by decide +kernel
theorem dX8_blocks_25 : decode cX8_blocks 25 = .ok (.iload_n 1, 1) := by decide +kernel
theorem dX8_blocks_26 : decode cX8_blocks 26 = .ok (.invokevirtual 140, 3) := by decide +kernel
theorem dX8_blocks_29 : decode cX8_blocks 29 = .ok (.lmul, 1) := by decide +kernel
theorem dX8_blocks_30 : decode cX8_blocks 30 = .ok (.ladd, 1) := by decide +kernel
theorem dX8_blocks_31 : decode cX8_blocks 31 = .ok (.iload_n 1, 1) := by decide +kernel
theorem dX8_blocks_32 : decode cX8_blocks 32 = .ok (.i2l, 1) := by decide +kernel
theorem dX8_blocks_33 : decode cX8_blocks 33 = .ok (.aload_n 0, 1) := by decide +kernel
theorem dX8_blocks_34 : decode cX8_blocks 34 = .ok (.iload_n 1, 1) := by decide +kernel
theorem dX8_blocks_35 : decode cX8_blocks 35 = .ok (.invokevirtual 140, 3) := by decide +kernel
theorem dX8_blocks_38 : decode cX8_blocks 38 = .ok (.lmul, 1) := by decide +kernel
theorem dX8_blocks_39 : decode cX8_blocks 39 = .ok (.invokevirtual 90, 3) := by decide +kernel
theorem dX8_blocks_42 : decode cX8_blocks 42 = .ok (.return_, 1) := by decide +kernel
set_option maxRecDepth 20000 in
theorem ggX8_block_X8_in : GoodIn wsX8_block wsX8_in := goodIn_r _ [6] (by decide +kernel) (by decide +kernel)
set_option maxRecDepth 20000 in
theorem gX8_block_X8_in : GoodIn wsX8_block (va_wsS RX8 106 yX8_in wsX8_in) := goodIn_app (goodIn_of _ (by decide +kernel)) ggX8_block_X8_in
set_option maxRecDepth 20000 in
theorem ggX8_block_X8_laysFailing : GoodIn wsX8_block wsX8_laysFailing := goodIn_r _ [10, 11, 12, 13, 14, 15, 5, 16, 17, 18, 19, 20, 21, 22, 23, 41, 42, 43, 44, 45, 46, 47, 48, 49, 50, 51, 52, 53, 54, 55, 56, 57, 58, 59, 60, 61, 62, 63, 64, 65, 66, 67, 68, 69, 70, 71, 72, 73] (by decide +kernel) (by decide +kernel)
set_option maxRecDepth 20000 in
theorem gX8_block_X8_laysFailing : GoodIn wsX8_block (wsV RX8 147 RX8 yX8_laysFailing wsX8_laysFailing) := goodIn_app (goodIn_of _ (by decide +kernel)) ggX8_block_X8_laysFailing
set_option maxRecDepth 20000 in
theorem ggX8_block_X8_blocks : GoodIn wsX8_block wsX8_blocks := goodIn_r _ [27, 12, 11, 13, 14, 15, 5, 16, 17, 18, 19, 20, 21, 22, 23, 28, 29, 30, 31, 32, 33, 34, 35, 36, 41, 42, 43, 44, 45, 46, 47, 48, 49, 50, 51, 52, 53, 54, 55, 56, 57, 58, 59, 60, 61, 62, 63, 64, 65, 66, 67, 68, 69, 70, 71, 72, 73] (by decide +kernel) (by decide +kernel)
set_option maxRecDepth 20000 in
theorem gX8_block_X8_blocks : GoodIn wsX8_block (wsV RX8 150 RX8 yX8_blocks wsX8_blocks) := goodIn_app (goodIn_of _ (by decide +kernel)) ggX8_block_X8_blocks
set_option maxRecDepth 20000 in
theorem ggX8_block_X8_told : GoodIn wsX8_block wsX8_told := goodIn_r _ [40, 32, 33, 41, 42, 43, 44, 45, 46, 47, 48, 49, 50, 51, 52, 53, 54, 55, 56, 57, 58, 59, 60, 61, 62, 63, 64, 65, 66, 67, 68, 69, 70, 71, 72, 73] (by decide +kernel) (by decide +kernel)
set_option maxRecDepth 20000 in
theorem gX8_block_X8_told : GoodIn wsX8_block (wsV RX8 136 RX8 yX8_told wsX8_told) := goodIn_app (goodIn_of _ (by decide +kernel)) ggX8_block_X8_told
theorem dX8_block_0 : decode cX8_block 0 = .ok (.iload_n 1, 1) := by decide +kernel
theorem dX8_block_1 : decode cX8_block 1 = .ok (.i2l, 1) := by decide +kernel
theorem dX8_block_2 : decode cX8_block 2 = .ok (.lconst 1, 1) := by decide +kernel
theorem dX8_block_3 : decode cX8_block 3 = .ok (.ldc2_w 143, 3) := by decide +kernel
theorem dX8_block_6 : decode cX8_block 6 = .ok (.invokestatic 106, 3) := by decide +kernel
theorem dX8_block_9 : decode cX8_block 9 = .ok (.ifCond .eq 13, 3) := by decide +kernel
theorem dX8_block_12 : decode cX8_block 12 = .ok (.iload_n 2, 1) := by decide +kernel
theorem dX8_block_13 : decode cX8_block 13 = .ok (.i2l, 1) := by decide +kernel
theorem dX8_block_14 : decode cX8_block 14 = .ok (.lconst 0, 1) := by decide +kernel
theorem dX8_block_15 : decode cX8_block 15 = .ok (.lconst 1, 1) := by decide +kernel
theorem dX8_block_16 : decode cX8_block 16 = .ok (.invokestatic 106, 3) := by decide +kernel
theorem dX8_block_19 : decode cX8_block 19 = .ok (.ifCond .ne 7, 3) := by decide +kernel
theorem dX8_block_22 : decode cX8_block 22 = .ok (.ldc2_w 145, 3) := by decide +kernel
theorem dX8_block_25 : decode cX8_block 25 = .ok (.lreturn, 1) := by decide +kernel
theorem dX8_block_26 : decode cX8_block 26 = .ok (.aload_n 0, 1) := by decide +kernel
theorem dX8_block_27 : decode cX8_block 27 = .ok (.invokevirtual 147, 3) := by decide +kernel
theorem dX8_block_30 : decode cX8_block 30 = .ok (.aload_n 0, 1) := by decide +kernel
theorem dX8_block_31 : decode cX8_block 31 = .ok (.iload_n 1, 1) := by decide +kernel
theorem dX8_block_32 : decode cX8_block 32 = .ok (.invokevirtual 150, 3) := by decide +kernel
theorem dX8_block_35 : decode cX8_block 35 = .ok (.aload_n 0, 1) := by decide +kernel
theorem dX8_block_36 : decode cX8_block 36 = .ok (.iload_n 2, 1) := by decide +kernel
theorem dX8_block_37 : decode cX8_block 37 = .ok (.invokevirtual 136, 3) := by decide +kernel
theorem dX8_block_40 : decode cX8_block 40 = .ok (.lreturn, 1) := by decide +kernel
set_option maxRecDepth 20000 in
theorem ggX8_bestBlock_X8_laysFailing : GoodIn wsX8_bestBlock wsX8_laysFailing := goodIn_r _ [7, 8, 9, 10, 11, 12, 6, 13, 14, 15, 16, 17, 18, 19, 20, 35, 36, 37, 38, 39, 40, 41, 42, 43, 44, 45, 46, 47, 48, 49, 50, 51, 52, 53, 54, 55, 56, 57, 58, 59, 60, 61, 62, 63, 64, 65, 66, 67] (by decide +kernel) (by decide +kernel)
set_option maxRecDepth 20000 in
theorem gX8_bestBlock_X8_laysFailing : GoodIn wsX8_bestBlock (wsV RX8 147 RX8 yX8_laysFailing wsX8_laysFailing) := goodIn_app (goodIn_of _ (by decide +kernel)) ggX8_bestBlock_X8_laysFailing
set_option maxRecDepth 20000 in
theorem ggX8_bestBlock_X8_blocks : GoodIn wsX8_bestBlock wsX8_blocks := goodIn_r _ [24, 9, 8, 10, 11, 12, 6, 13, 14, 15, 16, 17, 18, 19, 20, 25, 26, 27, 28, 1, 2, 29, 30, 31, 35, 36, 37, 38, 39, 40, 41, 42, 43, 44, 45, 46, 47, 48, 49, 50, 51, 52, 53, 54, 55, 56, 57, 58, 59, 60, 61, 62, 63, 64, 65, 66, 67] (by decide +kernel) (by decide +kernel)
set_option maxRecDepth 20000 in
theorem gX8_bestBlock_X8_blocks : GoodIn wsX8_bestBlock (wsV RX8 150 RX8 yX8_blocks wsX8_blocks) := goodIn_app (goodIn_of _ (by decide +kernel)) ggX8_bestBlock_X8_blocks
set_option maxRecDepth 20000 in
theorem ggX8_bestBlock_X8_isLess : GoodIn wsX8_bestBlock wsX8_isLess := goodIn_r _ [34] (by decide +kernel) (by decide +kernel)
set_option maxRecDepth 20000 in
theorem gX8_bestBlock_X8_isLess : GoodIn wsX8_bestBlock (va_wsS RX8 102 yX8_isLess wsX8_isLess) := goodIn_app (goodIn_of _ (by decide +kernel)) ggX8_bestBlock_X8_isLess
theorem dX8_bestBlock_0 : decode cX8_bestBlock 0 = .ok (.aload_n 0, 1) := by decide +kernel
theorem dX8_bestBlock_1 : decode cX8_bestBlock 1 = .ok (.invokevirtual 147, 3) := by decide +kernel
theorem dX8_bestBlock_4 : decode cX8_bestBlock 4 = .ok (.iconst 1, 1) := by decide +kernel
theorem dX8_bestBlock_5 : decode cX8_bestBlock 5 = .ok (.istore_n 1, 1) := by decide +kernel
theorem dX8_bestBlock_6 : decode cX8_bestBlock 6 = .ok (.aload_n 0, 1) := by decide +kernel
theorem dX8_bestBlock_7 : decode cX8_bestBlock 7 = .ok (.iconst 1, 1) := by decide +kernel
theorem dX8_bestBlock_8 : decode cX8_bestBlock 8 = .ok (.invokevirtual 150, 3) := by decide +kernel
theorem dX8_bestBlock_11 : decode cX8_bestBlock 11 = .ok (.aload_n 0, 1) := by decide +kernel
theorem dX8_bestBlock_12 : decode cX8_bestBlock 12 = .ok (.getfield 83, 3) := by decide +kernel
theorem dX8_bestBlock_15 : decode cX8_bestBlock 15 = .ok (.lstore_n 2, 1) := by decide +kernel
theorem dX8_bestBlock_16 : decode cX8_bestBlock 16 = .ok (.aload_n 0, 1) := by decide +kernel
theorem dX8_bestBlock_17 : decode cX8_bestBlock 17 = .ok (.getfield 87, 3) := by decide +kernel
theorem dX8_bestBlock_20 : decode cX8_bestBlock 20 = .ok (.lstore 4, 2) := by decide +kernel
theorem dX8_bestBlock_22 : decode cX8_bestBlock 22 = .ok (.iconst 2, 1) := by decide +kernel
theorem dX8_bestBlock_23 : decode cX8_bestBlock 23 = .ok (.istore 6, 2) := by decide +kernel
theorem dX8_bestBlock_25 : decode cX8_bestBlock 25 = .ok (.iload 6, 2) := by decide +kernel
theorem dX8_bestBlock_27 : decode cX8_bestBlock 27 = .ok (.bipush 11, 2) := by decide +kernel
theorem dX8_bestBlock_29 : decode cX8_bestBlock 29 = .ok (.if_icmp .ge 46, 3) := by decide +kernel
theorem dX8_bestBlock_32 : decode cX8_bestBlock 32 = .ok (.aload_n 0, 1) := by decide +kernel
theorem dX8_bestBlock_33 : decode cX8_bestBlock 33 = .ok (.iload 6, 2) := by decide +kernel
theorem dX8_bestBlock_35 : decode cX8_bestBlock 35 = .ok (.invokevirtual 150, 3) := by decide +kernel
theorem dX8_bestBlock_38 : decode cX8_bestBlock 38 = .ok (.aload_n 0, 1) := by decide +kernel
theorem dX8_bestBlock_39 : decode cX8_bestBlock 39 = .ok (.getfield 83, 3) := by decide +kernel
theorem dX8_bestBlock_42 : decode cX8_bestBlock 42 = .ok (.aload_n 0, 1) := by decide +kernel
theorem dX8_bestBlock_43 : decode cX8_bestBlock 43 = .ok (.getfield 87, 3) := by decide +kernel
theorem dX8_bestBlock_46 : decode cX8_bestBlock 46 = .ok (.lload_n 2, 1) := by decide +kernel
theorem dX8_bestBlock_47 : decode cX8_bestBlock 47 = .ok (.lload 4, 2) := by decide +kernel
theorem dX8_bestBlock_49 : decode cX8_bestBlock 49 = .ok (.invokestatic 102, 3) := by decide +kernel
theorem dX8_bestBlock_52 : decode cX8_bestBlock 52 = .ok (.ifCond .eq 17, 3) := by decide +kernel
theorem dX8_bestBlock_55 : decode cX8_bestBlock 55 = .ok (.iload 6, 2) := by decide +kernel
theorem dX8_bestBlock_57 : decode cX8_bestBlock 57 = .ok (.istore_n 1, 1) := by decide +kernel
theorem dX8_bestBlock_58 : decode cX8_bestBlock 58 = .ok (.aload_n 0, 1) := by decide +kernel
theorem dX8_bestBlock_59 : decode cX8_bestBlock 59 = .ok (.getfield 83, 3) := by decide +kernel
theorem dX8_bestBlock_62 : decode cX8_bestBlock 62 = .ok (.lstore_n 2, 1) := by decide +kernel
theorem dX8_bestBlock_63 : decode cX8_bestBlock 63 = .ok (.aload_n 0, 1) := by decide +kernel
theorem dX8_bestBlock_64 : decode cX8_bestBlock 64 = .ok (.getfield 87, 3) := by decide +kernel
theorem dX8_bestBlock_67 : decode cX8_bestBlock 67 = .ok (.lstore 4, 2) := by decide +kernel
theorem dX8_bestBlock_69 : decode cX8_bestBlock 69 = .ok (.iinc 6 1, 3) := by decide +kernel
theorem dX8_bestBlock_72 : decode cX8_bestBlock 72 = .ok (.goto (-47), 3) := by decide +kernel
theorem dX8_bestBlock_75 : decode cX8_bestBlock 75 = .ok (.iload_n 1, 1) := by decide +kernel
theorem dX8_bestBlock_76 : decode cX8_bestBlock 76 = .ok (.ireturn, 1) := by decide +kernel
set_option maxRecDepth 20000 in
theorem ggX8_keeps_X8_leftOf : GoodIn wsX8_keeps wsX8_leftOf := goodIn_r _ [10, 1, 11, 12, 9, 13, 29, 30, 31, 32, 33, 34, 35, 36, 37, 38, 39, 40, 41, 42, 43, 44, 45, 46, 47, 48, 49, 50, 51, 52, 53, 54, 55, 56, 57, 58, 59, 60, 61] (by decide +kernel) (by decide +kernel)
set_option maxRecDepth 20000 in
theorem gX8_keeps_X8_leftOf : GoodIn wsX8_keeps (wsV RX8 116 RX8 yX8_leftOf wsX8_leftOf) := goodIn_app (goodIn_of _ (by decide +kernel)) ggX8_keeps_X8_leftOf
set_option maxRecDepth 20000 in
theorem ggX8_keeps_X8_adds : GoodIn wsX8_keeps wsX8_adds := goodIn_r _ [17, 18, 19, 9, 20, 21, 22, 23, 24, 4, 5, 29, 30, 31, 32, 33, 34, 35, 36, 37, 38, 39, 40, 41, 42, 43, 44, 45, 46, 47, 48, 49, 50, 51, 52, 53, 54, 55, 56, 57, 58, 59, 60, 61] (by decide +kernel) (by decide +kernel)
set_option maxRecDepth 20000 in
theorem gX8_keeps_X8_adds : GoodIn wsX8_keeps (wsV RX8 153 RX8 yX8_adds wsX8_adds) := goodIn_app (goodIn_of _ (by decide +kernel)) ggX8_keeps_X8_adds
set_option maxRecDepth 20000 in
theorem ggX8_keeps_X8_multiplies : GoodIn wsX8_keeps wsX8_multiplies := goodIn_r _ [28, 18, 19, 9, 20, 21, 22, 23, 24, 4, 5, 29, 30, 31, 32, 33, 34, 35, 36, 37, 38, 39, 40, 41, 42, 43, 44, 45, 46, 47, 48, 49, 50, 51, 52, 53, 54, 55, 56, 57, 58, 59, 60, 61] (by decide +kernel) (by decide +kernel)
set_option maxRecDepth 20000 in
theorem gX8_keeps_X8_multiplies : GoodIn wsX8_keeps (wsV RX8 157 RX8 yX8_multiplies wsX8_multiplies) := goodIn_app (goodIn_of _ (by decide +kernel)) ggX8_keeps_X8_multiplies
theorem dX8_keeps_0 : decode cX8_keeps 0 = .ok (.aload_n 0, 1) := by decide +kernel
theorem dX8_keeps_1 : decode cX8_keeps 1 = .ok (.iload_n 1, 1) := by decide +kernel
theorem dX8_keeps_2 : decode cX8_keeps 2 = .ok (.iconst 1, 1) := by decide +kernel
theorem dX8_keeps_3 : decode cX8_keeps 3 = .ok (.iadd, 1) := by decide +kernel
theorem dX8_keeps_4 : decode cX8_keeps 4 = .ok (.invokevirtual 116, 3) := by decide +kernel
theorem dX8_keeps_7 : decode cX8_keeps 7 = .ok (.istore_n 2, 1) := by decide +kernel
theorem dX8_keeps_8 : decode cX8_keeps 8 = .ok (.aload_n 0, 1) := by decide +kernel
theorem dX8_keeps_9 : decode cX8_keeps 9 = .ok (.aload_n 0, 1) := by decide +kernel
theorem dX8_keeps_10 : decode cX8_keeps 10 = .ok (.getfield 7, 3) := by decide +kernel
theorem dX8_keeps_13 : decode cX8_keeps 13 = .ok (.bipush 9, 2) := by decide +kernel
theorem dX8_keeps_15 : decode cX8_keeps 15 = .ok (.iaload, 1) := by decide +kernel
theorem dX8_keeps_16 : decode cX8_keeps 16 = .ok (.i2l, 1) := by decide +kernel
theorem dX8_keeps_17 : decode cX8_keeps 17 = .ok (.lconst 1, 1) := by decide +kernel
theorem dX8_keeps_18 : decode cX8_keeps 18 = .ok (.aload_n 0, 1) := by decide +kernel
theorem dX8_keeps_19 : decode cX8_keeps 19 = .ok (.getfield 45, 3) := by decide +kernel
theorem dX8_keeps_22 : decode cX8_keeps 22 = .ok (.iconst 0, 1) := by decide +kernel
theorem dX8_keeps_23 : decode cX8_keeps 23 = .ok (.laload, 1) := by decide +kernel
theorem dX8_keeps_24 : decode cX8_keeps 24 = .ok (.aload_n 0, 1) := by decide +kernel
theorem dX8_keeps_25 : decode cX8_keeps 25 = .ok (.getfield 48, 3) := by decide +kernel
theorem dX8_keeps_28 : decode cX8_keeps 28 = .ok (.iconst 0, 1) := by decide +kernel
theorem dX8_keeps_29 : decode cX8_keeps 29 = .ok (.laload, 1) := by decide +kernel
theorem dX8_keeps_30 : decode cX8_keeps 30 = .ok (.invokevirtual 153, 3) := by decide +kernel
theorem dX8_keeps_33 : decode cX8_keeps 33 = .ok (.aload_n 0, 1) := by decide +kernel
theorem dX8_keeps_34 : decode cX8_keeps 34 = .ok (.aload_n 0, 1) := by decide +kernel
theorem dX8_keeps_35 : decode cX8_keeps 35 = .ok (.getfield 83, 3) := by decide +kernel
theorem dX8_keeps_38 : decode cX8_keeps 38 = .ok (.aload_n 0, 1) := by decide +kernel
theorem dX8_keeps_39 : decode cX8_keeps 39 = .ok (.getfield 87, 3) := by decide +kernel
theorem dX8_keeps_42 : decode cX8_keeps 42 = .ok (.aload_n 0, 1) := by decide +kernel
theorem dX8_keeps_43 : decode cX8_keeps 43 = .ok (.getfield 7, 3) := by decide +kernel
theorem dX8_keeps_46 : decode cX8_keeps 46 = .ok (.iload_n 1, 1) := by decide +kernel
theorem dX8_keeps_47 : decode cX8_keeps 47 = .ok (.iconst 1, 1) := by decide +kernel
theorem dX8_keeps_48 : decode cX8_keeps 48 = .ok (.iadd, 1) := by decide +kernel
theorem dX8_keeps_49 : decode cX8_keeps 49 = .ok (.iaload, 1) := by decide +kernel
theorem dX8_keeps_50 : decode cX8_keeps 50 = .ok (.i2l, 1) := by decide +kernel
theorem dX8_keeps_51 : decode cX8_keeps 51 = .ok (.aload_n 0, 1) := by decide +kernel
theorem dX8_keeps_52 : decode cX8_keeps 52 = .ok (.iload_n 1, 1) := by decide +kernel
theorem dX8_keeps_53 : decode cX8_keeps 53 = .ok (.invokevirtual 116, 3) := by decide +kernel
theorem dX8_keeps_56 : decode cX8_keeps 56 = .ok (.i2l, 1) := by decide +kernel
theorem dX8_keeps_57 : decode cX8_keeps 57 = .ok (.invokevirtual 157, 3) := by decide +kernel
theorem dX8_keeps_60 : decode cX8_keeps 60 = .ok (.aload_n 0, 1) := by decide +kernel
theorem dX8_keeps_61 : decode cX8_keeps 61 = .ok (.getfield 83, 3) := by decide +kernel
theorem dX8_keeps_64 : decode cX8_keeps 64 = .ok (.lstore_n 3, 1) := by decide +kernel
theorem dX8_keeps_65 : decode cX8_keeps 65 = .ok (.aload_n 0, 1) := by decide +kernel
theorem dX8_keeps_66 : decode cX8_keeps 66 = .ok (.getfield 87, 3) := by decide +kernel
theorem dX8_keeps_69 : decode cX8_keeps 69 = .ok (.lstore 5, 2) := by decide +kernel
theorem dX8_keeps_71 : decode cX8_keeps 71 = .ok (.aload_n 0, 1) := by decide +kernel
theorem dX8_keeps_72 : decode cX8_keeps 72 = .ok (.aload_n 0, 1) := by decide +kernel
theorem dX8_keeps_73 : decode cX8_keeps 73 = .ok (.getfield 45, 3) := by decide +kernel
theorem dX8_keeps_76 : decode cX8_keeps 76 = .ok (.iload_n 1, 1) := by decide +kernel
theorem dX8_keeps_77 : decode cX8_keeps 77 = .ok (.iconst 1, 1) := by decide +kernel
theorem dX8_keeps_78 : decode cX8_keeps 78 = .ok (.iadd, 1) := by decide +kernel
theorem dX8_keeps_79 : decode cX8_keeps 79 = .ok (.laload, 1) := by decide +kernel
theorem dX8_keeps_80 : decode cX8_keeps 80 = .ok (.aload_n 0, 1) := by decide +kernel
theorem dX8_keeps_81 : decode cX8_keeps 81 = .ok (.getfield 48, 3) := by decide +kernel
theorem dX8_keeps_84 : decode cX8_keeps 84 = .ok (.iload_n 1, 1) := by decide +kernel
theorem dX8_keeps_85 : decode cX8_keeps 85 = .ok (.iconst 1, 1) := by decide +kernel
theorem dX8_keeps_86 : decode cX8_keeps 86 = .ok (.iadd, 1) := by decide +kernel
theorem dX8_keeps_87 : decode cX8_keeps 87 = .ok (.laload, 1) := by decide +kernel
theorem dX8_keeps_88 : decode cX8_keeps 88 = .ok (.iload_n 2, 1) := by decide +kernel
theorem dX8_keeps_89 : decode cX8_keeps 89 = .ok (.i2l, 1) := by decide +kernel
theorem dX8_keeps_90 : decode cX8_keeps 90 = .ok (.aload_n 0, 1) := by decide +kernel
theorem dX8_keeps_91 : decode cX8_keeps 91 = .ok (.iload_n 1, 1) := by decide +kernel
theorem dX8_keeps_92 : decode cX8_keeps 92 = .ok (.invokevirtual 116, 3) := by decide +kernel
theorem dX8_keeps_95 : decode cX8_keeps 95 = .ok (.i2l, 1) := by decide +kernel
theorem dX8_keeps_96 : decode cX8_keeps 96 = .ok (.invokevirtual 157, 3) := by decide +kernel
theorem dX8_keeps_99 : decode cX8_keeps 99 = .ok (.aload_n 0, 1) := by decide +kernel
theorem dX8_keeps_100 : decode cX8_keeps 100 = .ok (.lload_n 3, 1) := by decide +kernel
theorem dX8_keeps_101 : decode cX8_keeps 101 = .ok (.lload 5, 2) := by decide +kernel
theorem dX8_keeps_103 : decode cX8_keeps 103 = .ok (.aload_n 0, 1) := by decide +kernel
theorem dX8_keeps_104 : decode cX8_keeps 104 = .ok (.getfield 83, 3) := by decide +kernel
theorem dX8_keeps_107 : decode cX8_keeps 107 = .ok (.aload_n 0, 1) := by decide +kernel
theorem dX8_keeps_108 : decode cX8_keeps 108 = .ok (.getfield 87, 3) := by decide +kernel
theorem dX8_keeps_111 : decode cX8_keeps 111 = .ok (.invokevirtual 153, 3) := by decide +kernel
theorem dX8_keeps_114 : decode cX8_keeps 114 = .ok (.return_, 1) := by decide +kernel
set_option maxRecDepth 20000 in
theorem ggX8_chooses_X8_keeps : GoodIn wsX8_chooses wsX8_keeps := goodIn_r _ [9, 3, 10, 11, 1, 2, 12, 13, 14, 8, 15, 16, 17, 18, 19, 20, 21, 22, 23, 24, 25, 26, 27, 28, 29, 30, 31, 32, 33, 37, 38, 39, 40, 41, 42, 43, 44, 45, 46, 47, 48, 49, 50, 51, 52, 53, 54, 55, 56, 57, 58, 59, 60, 61, 62, 63, 64, 65, 66, 67, 68, 69] (by decide +kernel) (by decide +kernel)
set_option maxRecDepth 20000 in
theorem gX8_chooses_X8_keeps : GoodIn wsX8_chooses (wsV RX8 160 RX8 yX8_keeps wsX8_keeps) := goodIn_app (goodIn_of _ (by decide +kernel)) ggX8_chooses_X8_keeps
set_option maxRecDepth 20000 in
theorem ggX8_chooses_X8_adds : GoodIn wsX8_chooses wsX8_adds := goodIn_r _ [22, 23, 24, 8, 25, 26, 27, 28, 29, 1, 2, 37, 38, 39, 40, 41, 42, 43, 44, 45, 46, 47, 48, 49, 50, 51, 52, 53, 54, 55, 56, 57, 58, 59, 60, 61, 62, 63, 64, 65, 66, 67, 68, 69] (by decide +kernel) (by decide +kernel)
set_option maxRecDepth 20000 in
theorem gX8_chooses_X8_adds : GoodIn wsX8_chooses (wsV RX8 153 RX8 yX8_adds wsX8_adds) := goodIn_app (goodIn_of _ (by decide +kernel)) ggX8_chooses_X8_adds
set_option maxRecDepth 20000 in
theorem ggX8_chooses_X8_isLess : GoodIn wsX8_chooses wsX8_isLess := goodIn_r _ [36] (by decide +kernel) (by decide +kernel)
set_option maxRecDepth 20000 in
theorem gX8_chooses_X8_isLess : GoodIn wsX8_chooses (va_wsS RX8 102 yX8_isLess wsX8_isLess) := goodIn_app (goodIn_of _ (by decide +kernel)) ggX8_chooses_X8_isLess
theorem dX8_chooses_0 : decode cX8_chooses 0 = .ok (.aload_n 0, 1) := by decide +kernel
theorem dX8_chooses_1 : decode cX8_chooses 1 = .ok (.iload_n 1, 1) := by decide +kernel
theorem dX8_chooses_2 : decode cX8_chooses 2 = .ok (.invokevirtual 160, 3) := by decide +kernel
theorem dX8_chooses_5 : decode cX8_chooses 5 = .ok (.aload_n 0, 1) := by decide +kernel
theorem dX8_chooses_6 : decode cX8_chooses 6 = .ok (.getfield 83, 3) := by decide +kernel
theorem dX8_chooses_9 : decode cX8_chooses 9 = .ok (.lstore_n 2, 1) := by decide +kernel
theorem dX8_chooses_10 : decode cX8_chooses 10 = .ok (.aload_n 0, 1) := by decide +kernel
theorem dX8_chooses_11 : decode cX8_chooses 11 = .ok (.getfield 87, 3) := by decide +kernel
theorem dX8_chooses_14 : decode cX8_chooses 14 = .ok (.lstore 4, 2) := by decide +kernel
theorem dX8_chooses_16 : decode cX8_chooses 16 = .ok (.aload_n 0, 1) := by decide +kernel
theorem dX8_chooses_17 : decode cX8_chooses 17 = .ok (.iconst 0, 1) := by decide +kernel
theorem dX8_chooses_18 : decode cX8_chooses 18 = .ok (.invokevirtual 160, 3) := by decide +kernel
theorem dX8_chooses_21 : decode cX8_chooses 21 = .ok (.aload_n 0, 1) := by decide +kernel
theorem dX8_chooses_22 : decode cX8_chooses 22 = .ok (.aload_n 0, 1) := by decide +kernel
theorem dX8_chooses_23 : decode cX8_chooses 23 = .ok (.getfield 83, 3) := by decide +kernel
theorem dX8_chooses_26 : decode cX8_chooses 26 = .ok (.aload_n 0, 1) := by decide +kernel
theorem dX8_chooses_27 : decode cX8_chooses 27 = .ok (.getfield 87, 3) := by decide +kernel
theorem dX8_chooses_30 : decode cX8_chooses 30 = .ok (.aload_n 0, 1) := by decide +kernel
theorem dX8_chooses_31 : decode cX8_chooses 31 = .ok (.getfield 7, 3) := by decide +kernel
theorem dX8_chooses_34 : decode cX8_chooses 34 = .ok (.bipush 10, 2) := by decide +kernel
theorem dX8_chooses_36 : decode cX8_chooses 36 = .ok (.iaload, 1) := by decide +kernel
theorem dX8_chooses_37 : decode cX8_chooses 37 = .ok (.i2l, 1) := by decide +kernel
theorem dX8_chooses_38 : decode cX8_chooses 38 = .ok (.lconst 1, 1) := by decide +kernel
theorem dX8_chooses_39 : decode cX8_chooses 39 = .ok (.invokevirtual 153, 3) := by decide +kernel
theorem dX8_chooses_42 : decode cX8_chooses 42 = .ok (.aload_n 0, 1) := by decide +kernel
theorem dX8_chooses_43 : decode cX8_chooses 43 = .ok (.aload_n 0, 1) := by decide +kernel
theorem dX8_chooses_44 : decode cX8_chooses 44 = .ok (.getfield 83, 3) := by decide +kernel
theorem dX8_chooses_47 : decode cX8_chooses 47 = .ok (.aload_n 0, 1) := by decide +kernel
theorem dX8_chooses_48 : decode cX8_chooses 48 = .ok (.getfield 87, 3) := by decide +kernel
theorem dX8_chooses_51 : decode cX8_chooses 51 = .ok (.lload_n 2, 1) := by decide +kernel
theorem dX8_chooses_52 : decode cX8_chooses 52 = .ok (.lload 4, 2) := by decide +kernel
theorem dX8_chooses_54 : decode cX8_chooses 54 = .ok (.invokestatic 102, 3) := by decide +kernel
theorem dX8_chooses_57 : decode cX8_chooses 57 = .ok (.putfield 163, 3) := by decide +kernel
theorem dX8_chooses_60 : decode cX8_chooses 60 = .ok (.aload_n 0, 1) := by decide +kernel
theorem dX8_chooses_61 : decode cX8_chooses 61 = .ok (.getfield 163, 3) := by decide +kernel
theorem dX8_chooses_64 : decode cX8_chooses 64 = .ok (.ifCond .ne 14, 3) := by decide +kernel
theorem dX8_chooses_67 : decode cX8_chooses 67 = .ok (.aload_n 0, 1) := by decide +kernel
theorem dX8_chooses_68 : decode cX8_chooses 68 = .ok (.lload_n 2, 1) := by decide +kernel
theorem dX8_chooses_69 : decode cX8_chooses 69 = .ok (.putfield 83, 3) := by decide +kernel
theorem dX8_chooses_72 : decode cX8_chooses 72 = .ok (.aload_n 0, 1) := by decide +kernel
theorem dX8_chooses_73 : decode cX8_chooses 73 = .ok (.lload 4, 2) := by decide +kernel
theorem dX8_chooses_75 : decode cX8_chooses 75 = .ok (.putfield 87, 3) := by decide +kernel
theorem dX8_chooses_78 : decode cX8_chooses 78 = .ok (.return_, 1) := by decide +kernel
set_option maxRecDepth 20000 in
theorem ggX8_least_X8_in : GoodIn wsX8_least wsX8_in := goodIn_r _ [15] (by decide +kernel) (by decide +kernel)
set_option maxRecDepth 20000 in
theorem gX8_least_X8_in : GoodIn wsX8_least (va_wsS RX8 106 yX8_in wsX8_in) := goodIn_app (goodIn_of _ (by decide +kernel)) ggX8_least_X8_in
set_option maxRecDepth 20000 in
theorem ggX8_least_X8_chooses : GoodIn wsX8_least wsX8_chooses := goodIn_r _ [19, 9, 11, 2, 5, 20, 21, 22, 14, 23, 6, 7, 24, 25, 26, 27, 28, 29, 30, 31, 32, 33, 34, 35, 36, 37, 38, 39, 40, 41, 42, 43, 44, 45, 46, 47, 48, 53, 54, 55, 56, 57, 58, 59, 60, 61, 62, 63, 64, 65, 66, 67, 68, 69, 70, 71, 72, 73, 74, 75, 76, 77, 78, 79, 80, 81, 82, 83, 84, 85] (by decide +kernel) (by decide +kernel)
set_option maxRecDepth 20000 in
theorem gX8_least_X8_chooses : GoodIn wsX8_least (wsV RX8 171 RX8 yX8_chooses wsX8_chooses) := goodIn_app (goodIn_of _ (by decide +kernel)) ggX8_least_X8_chooses
set_option maxRecDepth 20000 in
theorem ggX8_least_X8_told : GoodIn wsX8_least wsX8_told := goodIn_r _ [52, 9, 11, 53, 54, 55, 56, 57, 58, 59, 60, 61, 62, 63, 64, 65, 66, 67, 68, 69, 70, 71, 72, 73, 74, 75, 76, 77, 78, 79, 80, 81, 82, 83, 84, 85] (by decide +kernel) (by decide +kernel)
set_option maxRecDepth 20000 in
theorem gX8_least_X8_told : GoodIn wsX8_least (wsV RX8 136 RX8 yX8_told wsX8_told) := goodIn_app (goodIn_of _ (by decide +kernel)) ggX8_least_X8_told
theorem dX8_least_0 : decode cX8_least 0 = .ok (.iload_n 1, 1) := by decide +kernel
theorem dX8_least_1 : decode cX8_least 1 = .ok (.i2l, 1) := by decide +kernel
theorem dX8_least_2 : decode cX8_least 2 = .ok (.lconst 0, 1) := by decide +kernel
theorem dX8_least_3 : decode cX8_least 3 = .ok (.ldc2_w 167, 3) := by decide +kernel
theorem dX8_least_6 : decode cX8_least 6 = .ok (.invokestatic 106, 3) := by decide +kernel
theorem dX8_least_9 : decode cX8_least 9 = .ok (.ifCond .eq 33, 3) := by decide +kernel
theorem dX8_least_12 : decode cX8_least 12 = .ok (.iload_n 2, 1) := by decide +kernel
theorem dX8_least_13 : decode cX8_least 13 = .ok (.i2l, 1) := by decide +kernel
theorem dX8_least_14 : decode cX8_least 14 = .ok (.lconst 0, 1) := by decide +kernel
theorem dX8_least_15 : decode cX8_least 15 = .ok (.aload_n 0, 1) := by decide +kernel
theorem dX8_least_16 : decode cX8_least 16 = .ok (.getfield 7, 3) := by decide +kernel
theorem dX8_least_19 : decode cX8_least 19 = .ok (.iconst 0, 1) := by decide +kernel
theorem dX8_least_20 : decode cX8_least 20 = .ok (.iaload, 1) := by decide +kernel
theorem dX8_least_21 : decode cX8_least 21 = .ok (.iconst 1, 1) := by decide +kernel
theorem dX8_least_22 : decode cX8_least 22 = .ok (.isub, 1) := by decide +kernel
theorem dX8_least_23 : decode cX8_least 23 = .ok (.i2l, 1) := by decide +kernel
theorem dX8_least_24 : decode cX8_least 24 = .ok (.invokestatic 106, 3) := by decide +kernel
theorem dX8_least_27 : decode cX8_least 27 = .ok (.ifCond .eq 15, 3) := by decide +kernel
theorem dX8_least_30 : decode cX8_least 30 = .ok (.iload_n 3, 1) := by decide +kernel
theorem dX8_least_31 : decode cX8_least 31 = .ok (.i2l, 1) := by decide +kernel
theorem dX8_least_32 : decode cX8_least 32 = .ok (.lconst 0, 1) := by decide +kernel
theorem dX8_least_33 : decode cX8_least 33 = .ok (.ldc2_w 169, 3) := by decide +kernel
theorem dX8_least_36 : decode cX8_least 36 = .ok (.invokestatic 106, 3) := by decide +kernel
theorem dX8_least_39 : decode cX8_least 39 = .ok (.ifCond .ne 7, 3) := by decide +kernel
theorem dX8_least_42 : decode cX8_least 42 = .ok (.ldc2_w 145, 3) := by decide +kernel
theorem dX8_least_45 : decode cX8_least 45 = .ok (.lreturn, 1) := by decide +kernel
theorem dX8_least_46 : decode cX8_least 46 = .ok (.aload_n 0, 1) := by decide +kernel
theorem dX8_least_47 : decode cX8_least 47 = .ok (.iconst 0, 1) := by decide +kernel
theorem dX8_least_48 : decode cX8_least 48 = .ok (.putfield 163, 3) := by decide +kernel
theorem dX8_least_51 : decode cX8_least 51 = .ok (.iconst 0, 1) := by decide +kernel
theorem dX8_least_52 : decode cX8_least 52 = .ok (.istore 4, 2) := by decide +kernel
theorem dX8_least_54 : decode cX8_least 54 = .ok (.iload 4, 2) := by decide +kernel
theorem dX8_least_56 : decode cX8_least 56 = .ok (.bipush 9, 2) := by decide +kernel
theorem dX8_least_58 : decode cX8_least 58 = .ok (.if_icmp .ge 25, 3) := by decide +kernel
theorem dX8_least_61 : decode cX8_least 61 = .ok (.aload_n 0, 1) := by decide +kernel
theorem dX8_least_62 : decode cX8_least 62 = .ok (.getfield 45, 3) := by decide +kernel
theorem dX8_least_65 : decode cX8_least 65 = .ok (.iload 4, 2) := by decide +kernel
theorem dX8_least_67 : decode cX8_least 67 = .ok (.lconst 0, 1) := by decide +kernel
theorem dX8_least_68 : decode cX8_least 68 = .ok (.lastore, 1) := by decide +kernel
theorem dX8_least_69 : decode cX8_least 69 = .ok (.aload_n 0, 1) := by decide +kernel
theorem dX8_least_70 : decode cX8_least 70 = .ok (.getfield 48, 3) := by decide +kernel
theorem dX8_least_73 : decode cX8_least 73 = .ok (.iload 4, 2) := by decide +kernel
theorem dX8_least_75 : decode cX8_least 75 = .ok (.lconst 1, 1) := by decide +kernel
theorem dX8_least_76 : decode cX8_least 76 = .ok (.lastore, 1) := by decide +kernel
theorem dX8_least_77 : decode cX8_least 77 = .ok (.iinc 4 1, 3) := by decide +kernel
theorem dX8_least_80 : decode cX8_least 80 = .ok (.goto (-26), 3) := by decide +kernel
theorem dX8_least_83 : decode cX8_least 83 = .ok (.iconst 1, 1) := by decide +kernel
theorem dX8_least_84 : decode cX8_least 84 = .ok (.istore 4, 2) := by decide +kernel
theorem dX8_least_86 : decode cX8_least 86 = .ok (.iload 4, 2) := by decide +kernel
theorem dX8_least_88 : decode cX8_least 88 = .ok (.iload_n 1, 1) := by decide +kernel
theorem dX8_least_89 : decode cX8_least 89 = .ok (.if_icmp .gt 116, 3) := by decide +kernel
theorem dX8_least_92 : decode cX8_least 92 = .ok (.iconst 0, 1) := by decide +kernel
theorem dX8_least_93 : decode cX8_least 93 = .ok (.istore 5, 2) := by decide +kernel
theorem dX8_least_95 : decode cX8_least 95 = .ok (.iload 5, 2) := by decide +kernel
theorem dX8_least_97 : decode cX8_least 97 = .ok (.aload_n 0, 1) := by decide +kernel
theorem dX8_least_98 : decode cX8_least 98 = .ok (.getfield 7, 3) := by decide +kernel
theorem dX8_least_101 : decode cX8_least 101 = .ok (.iconst 0, 1) := by decide +kernel
theorem dX8_least_102 : decode cX8_least 102 = .ok (.iaload, 1) := by decide +kernel
theorem dX8_least_103 : decode cX8_least 103 = .ok (.if_icmp .ge 37, 3) := by decide +kernel
theorem dX8_least_106 : decode cX8_least 106 = .ok (.aload_n 0, 1) := by decide +kernel
theorem dX8_least_107 : decode cX8_least 107 = .ok (.iload 5, 2) := by decide +kernel
theorem dX8_least_109 : decode cX8_least 109 = .ok (.invokevirtual 171, 3) := by decide +kernel
theorem dX8_least_112 : decode cX8_least 112 = .ok (.aload_n 0, 1) := by decide +kernel
theorem dX8_least_113 : decode cX8_least 113 = .ok (.getfield 51, 3) := by decide +kernel
theorem dX8_least_116 : decode cX8_least 116 = .ok (.iload 5, 2) := by decide +kernel
theorem dX8_least_118 : decode cX8_least 118 = .ok (.aload_n 0, 1) := by decide +kernel
theorem dX8_least_119 : decode cX8_least 119 = .ok (.getfield 83, 3) := by decide +kernel
theorem dX8_least_122 : decode cX8_least 122 = .ok (.lastore, 1) := by decide +kernel
theorem dX8_least_123 : decode cX8_least 123 = .ok (.aload_n 0, 1) := by decide +kernel
theorem dX8_least_124 : decode cX8_least 124 = .ok (.getfield 54, 3) := by decide +kernel
theorem dX8_least_127 : decode cX8_least 127 = .ok (.iload 5, 2) := by decide +kernel
theorem dX8_least_129 : decode cX8_least 129 = .ok (.aload_n 0, 1) := by decide +kernel
theorem dX8_least_130 : decode cX8_least 130 = .ok (.getfield 87, 3) := by decide +kernel
theorem dX8_least_133 : decode cX8_least 133 = .ok (.lastore, 1) := by decide +kernel
theorem dX8_least_134 : decode cX8_least 134 = .ok (.iinc 5 1, 3) := by decide +kernel
theorem dX8_least_137 : decode cX8_least 137 = .ok (.goto (-42), 3) := by decide +kernel
theorem dX8_least_140 : decode cX8_least 140 = .ok (.iload 4, 2) := by decide +kernel
theorem dX8_least_142 : decode cX8_least 142 = .ok (.iload_n 1, 1) := by decide +kernel
theorem dX8_least_143 : decode cX8_least 143 = .ok (.if_icmp .ne 8, 3) := by decide +kernel
theorem dX8_least_146 : decode cX8_least 146 = .ok (.aload_n 0, 1) := by decide +kernel
theorem dX8_least_147 : decode cX8_least 147 = .ok (.iload_n 2, 1) := by decide +kernel
theorem dX8_least_148 : decode cX8_least 148 = .ok (.invokevirtual 171, 3) := by decide +kernel
theorem dX8_least_151 : decode cX8_least 151 = .ok (.iconst 0, 1) := by decide +kernel
theorem dX8_least_152 : decode cX8_least 152 = .ok (.istore 5, 2) := by decide +kernel
theorem dX8_least_154 : decode cX8_least 154 = .ok (.iload 5, 2) := by decide +kernel
theorem dX8_least_156 : decode cX8_least 156 = .ok (.aload_n 0, 1) := by decide +kernel
theorem dX8_least_157 : decode cX8_least 157 = .ok (.getfield 7, 3) := by decide +kernel
theorem dX8_least_160 : decode cX8_least 160 = .ok (.iconst 0, 1) := by decide +kernel
theorem dX8_least_161 : decode cX8_least 161 = .ok (.iaload, 1) := by decide +kernel
theorem dX8_least_162 : decode cX8_least 162 = .ok (.if_icmp .ge 37, 3) := by decide +kernel
theorem dX8_least_165 : decode cX8_least 165 = .ok (.aload_n 0, 1) := by decide +kernel
theorem dX8_least_166 : decode cX8_least 166 = .ok (.getfield 45, 3) := by decide +kernel
theorem dX8_least_169 : decode cX8_least 169 = .ok (.iload 5, 2) := by decide +kernel
theorem dX8_least_171 : decode cX8_least 171 = .ok (.aload_n 0, 1) := by decide +kernel
theorem dX8_least_172 : decode cX8_least 172 = .ok (.getfield 51, 3) := by decide +kernel
theorem dX8_least_175 : decode cX8_least 175 = .ok (.iload 5, 2) := by decide +kernel
theorem dX8_least_177 : decode cX8_least 177 = .ok (.laload, 1) := by decide +kernel
theorem dX8_least_178 : decode cX8_least 178 = .ok (.lastore, 1) := by decide +kernel
theorem dX8_least_179 : decode cX8_least 179 = .ok (.aload_n 0, 1) := by decide +kernel
theorem dX8_least_180 : decode cX8_least 180 = .ok (.getfield 48, 3) := by decide +kernel
theorem dX8_least_183 : decode cX8_least 183 = .ok (.iload 5, 2) := by decide +kernel
theorem dX8_least_185 : decode cX8_least 185 = .ok (.aload_n 0, 1) := by decide +kernel
theorem dX8_least_186 : decode cX8_least 186 = .ok (.getfield 54, 3) := by decide +kernel
theorem dX8_least_189 : decode cX8_least 189 = .ok (.iload 5, 2) := by decide +kernel
theorem dX8_least_191 : decode cX8_least 191 = .ok (.laload, 1) := by decide +kernel
theorem dX8_least_192 : decode cX8_least 192 = .ok (.lastore, 1) := by decide +kernel
theorem dX8_least_193 : decode cX8_least 193 = .ok (.iinc 5 1, 3) := by decide +kernel
theorem dX8_least_196 : decode cX8_least 196 = .ok (.goto (-42), 3) := by decide +kernel
theorem dX8_least_199 : decode cX8_least 199 = .ok (.iinc 4 1, 3) := by decide +kernel
theorem dX8_least_202 : decode cX8_least 202 = .ok (.goto (-116), 3) := by decide +kernel
theorem dX8_least_205 : decode cX8_least 205 = .ok (.aload_n 0, 1) := by decide +kernel
theorem dX8_least_206 : decode cX8_least 206 = .ok (.aload_n 0, 1) := by decide +kernel
theorem dX8_least_207 : decode cX8_least 207 = .ok (.getfield 45, 3) := by decide +kernel
theorem dX8_least_210 : decode cX8_least 210 = .ok (.iload_n 2, 1) := by decide +kernel
theorem dX8_least_211 : decode cX8_least 211 = .ok (.laload, 1) := by decide +kernel
theorem dX8_least_212 : decode cX8_least 212 = .ok (.putfield 83, 3) := by decide +kernel
theorem dX8_least_215 : decode cX8_least 215 = .ok (.aload_n 0, 1) := by decide +kernel
theorem dX8_least_216 : decode cX8_least 216 = .ok (.aload_n 0, 1) := by decide +kernel
theorem dX8_least_217 : decode cX8_least 217 = .ok (.getfield 48, 3) := by decide +kernel
theorem dX8_least_220 : decode cX8_least 220 = .ok (.iload_n 2, 1) := by decide +kernel
theorem dX8_least_221 : decode cX8_least 221 = .ok (.laload, 1) := by decide +kernel
theorem dX8_least_222 : decode cX8_least 222 = .ok (.putfield 87, 3) := by decide +kernel
theorem dX8_least_225 : decode cX8_least 225 = .ok (.iload_n 3, 1) := by decide +kernel
theorem dX8_least_226 : decode cX8_least 226 = .ok (.iconst 2, 1) := by decide +kernel
theorem dX8_least_227 : decode cX8_least 227 = .ok (.if_icmp .ne 18, 3) := by decide +kernel
theorem dX8_least_230 : decode cX8_least 230 = .ok (.aload_n 0, 1) := by decide +kernel
theorem dX8_least_231 : decode cX8_least 231 = .ok (.getfield 163, 3) := by decide +kernel
theorem dX8_least_234 : decode cX8_least 234 = .ok (.ifCond .eq 7, 3) := by decide +kernel
theorem dX8_least_237 : decode cX8_least 237 = .ok (.lconst 1, 1) := by decide +kernel
theorem dX8_least_238 : decode cX8_least 238 = .ok (.goto 12, 3) := by decide +kernel
theorem dX8_least_241 : decode cX8_least 241 = .ok (.lconst 0, 1) := by decide +kernel
theorem dX8_least_242 : decode cX8_least 242 = .ok (.goto 8, 3) := by decide +kernel
theorem dX8_least_245 : decode cX8_least 245 = .ok (.aload_n 0, 1) := by decide +kernel
theorem dX8_least_246 : decode cX8_least 246 = .ok (.iload_n 3, 1) := by decide +kernel
theorem dX8_least_247 : decode cX8_least 247 = .ok (.invokevirtual 136, 3) := by decide +kernel
theorem dX8_least_250 : decode cX8_least 250 = .ok (.lreturn, 1) := by decide +kernel
set_option maxRecDepth 20000 in
theorem ggX8_adding_X8_adds : GoodIn wsX8_adding wsX8_adds := goodIn_r _ [11, 12, 13, 10, 14, 15, 16, 17, 18, 5, 6, 23, 24, 25, 26, 27, 28, 29, 30, 31, 32, 33, 34, 35, 36, 37, 38, 39, 40, 41, 42, 43, 44, 45, 46, 47, 48, 49, 50, 51, 52, 53, 54, 55] (by decide +kernel) (by decide +kernel)
set_option maxRecDepth 20000 in
theorem gX8_adding_X8_adds : GoodIn wsX8_adding (wsV RX8 153 RX8 yX8_adds wsX8_adds) := goodIn_app (goodIn_of _ (by decide +kernel)) ggX8_adding_X8_adds
set_option maxRecDepth 20000 in
theorem ggX8_adding_X8_multiplies : GoodIn wsX8_adding wsX8_multiplies := goodIn_r _ [22, 12, 13, 10, 14, 15, 16, 17, 18, 5, 6, 23, 24, 25, 26, 27, 28, 29, 30, 31, 32, 33, 34, 35, 36, 37, 38, 39, 40, 41, 42, 43, 44, 45, 46, 47, 48, 49, 50, 51, 52, 53, 54, 55] (by decide +kernel) (by decide +kernel)
set_option maxRecDepth 20000 in
theorem gX8_adding_X8_multiplies : GoodIn wsX8_adding (wsV RX8 157 RX8 yX8_multiplies wsX8_multiplies) := goodIn_app (goodIn_of _ (by decide +kernel)) ggX8_adding_X8_multiplies
theorem dX8_adding_0 : decode cX8_adding 0 = .ok (.aload_n 0, 1) := by decide +kernel
theorem dX8_adding_1 : decode cX8_adding 1 = .ok (.getfield 174, 3) := by decide +kernel
theorem dX8_adding_4 : decode cX8_adding 4 = .ok (.lstore 5, 2) := by decide +kernel
theorem dX8_adding_6 : decode cX8_adding 6 = .ok (.aload_n 0, 1) := by decide +kernel
theorem dX8_adding_7 : decode cX8_adding 7 = .ok (.getfield 177, 3) := by decide +kernel
theorem dX8_adding_10 : decode cX8_adding 10 = .ok (.lstore 7, 2) := by decide +kernel
theorem dX8_adding_12 : decode cX8_adding 12 = .ok (.aload_n 0, 1) := by decide +kernel
theorem dX8_adding_13 : decode cX8_adding 13 = .ok (.iload_n 1, 1) := by decide +kernel
theorem dX8_adding_14 : decode cX8_adding 14 = .ok (.i2l, 1) := by decide +kernel
theorem dX8_adding_15 : decode cX8_adding 15 = .ok (.lconst 1, 1) := by decide +kernel
theorem dX8_adding_16 : decode cX8_adding 16 = .ok (.aload_n 0, 1) := by decide +kernel
theorem dX8_adding_17 : decode cX8_adding 17 = .ok (.getfield 57, 3) := by decide +kernel
theorem dX8_adding_20 : decode cX8_adding 20 = .ok (.iload_n 2, 1) := by decide +kernel
theorem dX8_adding_21 : decode cX8_adding 21 = .ok (.laload, 1) := by decide +kernel
theorem dX8_adding_22 : decode cX8_adding 22 = .ok (.aload_n 0, 1) := by decide +kernel
theorem dX8_adding_23 : decode cX8_adding 23 = .ok (.getfield 60, 3) := by decide +kernel
theorem dX8_adding_26 : decode cX8_adding 26 = .ok (.iload_n 2, 1) := by decide +kernel
theorem dX8_adding_27 : decode cX8_adding 27 = .ok (.laload, 1) := by decide +kernel
theorem dX8_adding_28 : decode cX8_adding 28 = .ok (.invokevirtual 153, 3) := by decide +kernel
theorem dX8_adding_31 : decode cX8_adding 31 = .ok (.aload_n 0, 1) := by decide +kernel
theorem dX8_adding_32 : decode cX8_adding 32 = .ok (.aload_n 0, 1) := by decide +kernel
theorem dX8_adding_33 : decode cX8_adding 33 = .ok (.getfield 83, 3) := by decide +kernel
theorem dX8_adding_36 : decode cX8_adding 36 = .ok (.aload_n 0, 1) := by decide +kernel
theorem dX8_adding_37 : decode cX8_adding 37 = .ok (.getfield 87, 3) := by decide +kernel
theorem dX8_adding_40 : decode cX8_adding 40 = .ok (.iload_n 3, 1) := by decide +kernel
theorem dX8_adding_41 : decode cX8_adding 41 = .ok (.i2l, 1) := by decide +kernel
theorem dX8_adding_42 : decode cX8_adding 42 = .ok (.iload 4, 2) := by decide +kernel
theorem dX8_adding_44 : decode cX8_adding 44 = .ok (.i2l, 1) := by decide +kernel
theorem dX8_adding_45 : decode cX8_adding 45 = .ok (.invokevirtual 157, 3) := by decide +kernel
theorem dX8_adding_48 : decode cX8_adding 48 = .ok (.aload_n 0, 1) := by decide +kernel
theorem dX8_adding_49 : decode cX8_adding 49 = .ok (.aload_n 0, 1) := by decide +kernel
theorem dX8_adding_50 : decode cX8_adding 50 = .ok (.getfield 83, 3) := by decide +kernel
theorem dX8_adding_53 : decode cX8_adding 53 = .ok (.aload_n 0, 1) := by decide +kernel
theorem dX8_adding_54 : decode cX8_adding 54 = .ok (.getfield 87, 3) := by decide +kernel
theorem dX8_adding_57 : decode cX8_adding 57 = .ok (.lload 5, 2) := by decide +kernel
theorem dX8_adding_59 : decode cX8_adding 59 = .ok (.lload 7, 2) := by decide +kernel
theorem dX8_adding_61 : decode cX8_adding 61 = .ok (.invokevirtual 153, 3) := by decide +kernel
theorem dX8_adding_64 : decode cX8_adding 64 = .ok (.aload_n 0, 1) := by decide +kernel
theorem dX8_adding_65 : decode cX8_adding 65 = .ok (.aload_n 0, 1) := by decide +kernel
theorem dX8_adding_66 : decode cX8_adding 66 = .ok (.getfield 83, 3) := by decide +kernel
theorem dX8_adding_69 : decode cX8_adding 69 = .ok (.putfield 174, 3) := by decide +kernel
theorem dX8_adding_72 : decode cX8_adding 72 = .ok (.aload_n 0, 1) := by decide +kernel
theorem dX8_adding_73 : decode cX8_adding 73 = .ok (.aload_n 0, 1) := by decide +kernel
theorem dX8_adding_74 : decode cX8_adding 74 = .ok (.getfield 87, 3) := by decide +kernel
theorem dX8_adding_77 : decode cX8_adding 77 = .ok (.putfield 177, 3) := by decide +kernel
theorem dX8_adding_80 : decode cX8_adding 80 = .ok (.return_, 1) := by decide +kernel
set_option maxRecDepth 20000 in
theorem ggX8_pairs_X8_leftOf : GoodIn wsX8_pairs wsX8_leftOf := goodIn_r _ [8, 1, 9, 10, 7, 11, 35, 36, 37, 38, 39, 40, 41, 42, 43, 44, 45, 46, 47, 48, 49, 50, 51, 52, 53, 54, 55, 56, 57, 58, 59, 60, 61, 62, 63, 64, 65, 66, 67] (by decide +kernel) (by decide +kernel)
set_option maxRecDepth 20000 in
theorem gX8_pairs_X8_leftOf : GoodIn wsX8_pairs (wsV RX8 116 RX8 yX8_leftOf wsX8_leftOf) := goodIn_app (goodIn_of _ (by decide +kernel)) ggX8_pairs_X8_leftOf
set_option maxRecDepth 20000 in
theorem ggX8_pairs_X8_adding : GoodIn wsX8_pairs wsX8_adding := goodIn_r _ [15, 2, 3, 16, 17, 18, 19, 20, 21, 22, 7, 23, 24, 25, 26, 27, 28, 29, 30, 31, 32, 33, 34, 35, 36, 37, 38, 39, 40, 41, 42, 43, 44, 45, 46, 47, 48, 49, 50, 51, 52, 53, 54, 55, 56, 57, 58, 59, 60, 61, 62, 63, 64, 65, 66, 67] (by decide +kernel) (by decide +kernel)
set_option maxRecDepth 20000 in
theorem gX8_pairs_X8_adding : GoodIn wsX8_pairs (wsV RX8 180 RX8 yX8_adding wsX8_adding) := goodIn_app (goodIn_of _ (by decide +kernel)) ggX8_pairs_X8_adding
theorem dX8_pairs_0 : decode cX8_pairs 0 = .ok (.aload_n 0, 1) := by decide +kernel
theorem dX8_pairs_1 : decode cX8_pairs 1 = .ok (.iload_n 2, 1) := by decide +kernel
theorem dX8_pairs_2 : decode cX8_pairs 2 = .ok (.invokevirtual 116, 3) := by decide +kernel
theorem dX8_pairs_5 : decode cX8_pairs 5 = .ok (.aload_n 0, 1) := by decide +kernel
theorem dX8_pairs_6 : decode cX8_pairs 6 = .ok (.iload_n 3, 1) := by decide +kernel
theorem dX8_pairs_7 : decode cX8_pairs 7 = .ok (.invokevirtual 116, 3) := by decide +kernel
theorem dX8_pairs_10 : decode cX8_pairs 10 = .ok (.imul, 1) := by decide +kernel
theorem dX8_pairs_11 : decode cX8_pairs 11 = .ok (.istore 4, 2) := by decide +kernel
theorem dX8_pairs_13 : decode cX8_pairs 13 = .ok (.aload_n 0, 1) := by decide +kernel
theorem dX8_pairs_14 : decode cX8_pairs 14 = .ok (.getfield 7, 3) := by decide +kernel
theorem dX8_pairs_17 : decode cX8_pairs 17 = .ok (.iload_n 2, 1) := by decide +kernel
theorem dX8_pairs_18 : decode cX8_pairs 18 = .ok (.iconst 1, 1) := by decide +kernel
theorem dX8_pairs_19 : decode cX8_pairs 19 = .ok (.iadd, 1) := by decide +kernel
theorem dX8_pairs_20 : decode cX8_pairs 20 = .ok (.iaload, 1) := by decide +kernel
theorem dX8_pairs_21 : decode cX8_pairs 21 = .ok (.istore 5, 2) := by decide +kernel
theorem dX8_pairs_23 : decode cX8_pairs 23 = .ok (.aload_n 0, 1) := by decide +kernel
theorem dX8_pairs_24 : decode cX8_pairs 24 = .ok (.getfield 7, 3) := by decide +kernel
theorem dX8_pairs_27 : decode cX8_pairs 27 = .ok (.iload_n 3, 1) := by decide +kernel
theorem dX8_pairs_28 : decode cX8_pairs 28 = .ok (.iconst 1, 1) := by decide +kernel
theorem dX8_pairs_29 : decode cX8_pairs 29 = .ok (.iadd, 1) := by decide +kernel
theorem dX8_pairs_30 : decode cX8_pairs 30 = .ok (.iaload, 1) := by decide +kernel
theorem dX8_pairs_31 : decode cX8_pairs 31 = .ok (.istore 6, 2) := by decide +kernel
theorem dX8_pairs_33 : decode cX8_pairs 33 = .ok (.aload_n 0, 1) := by decide +kernel
theorem dX8_pairs_34 : decode cX8_pairs 34 = .ok (.iload_n 2, 1) := by decide +kernel
theorem dX8_pairs_35 : decode cX8_pairs 35 = .ok (.iconst 1, 1) := by decide +kernel
theorem dX8_pairs_36 : decode cX8_pairs 36 = .ok (.iadd, 1) := by decide +kernel
theorem dX8_pairs_37 : decode cX8_pairs 37 = .ok (.invokevirtual 116, 3) := by decide +kernel
theorem dX8_pairs_40 : decode cX8_pairs 40 = .ok (.istore 7, 2) := by decide +kernel
theorem dX8_pairs_42 : decode cX8_pairs 42 = .ok (.aload_n 0, 1) := by decide +kernel
theorem dX8_pairs_43 : decode cX8_pairs 43 = .ok (.iload_n 3, 1) := by decide +kernel
theorem dX8_pairs_44 : decode cX8_pairs 44 = .ok (.iconst 1, 1) := by decide +kernel

theorem dX6_init_0 : decode cX6_init 0 = .ok (.aload_n 0, 1) := by decide +kernel
theorem dX6_init_1 : decode cX6_init 1 = .ok (.invokespecial 1, 3) := by decide +kernel
theorem dX6_init_4 : decode cX6_init 4 = .ok (.aload_n 0, 1) := by decide +kernel
theorem dX6_init_5 : decode cX6_init 5 = .ok (.iconst 5, 1) := by decide +kernel
theorem dX6_init_6 : decode cX6_init 6 = .ok (.putfield 7, 3) := by decide +kernel
theorem dX6_init_9 : decode cX6_init 9 = .ok (.aload_n 0, 1) := by decide +kernel
theorem dX6_init_10 : decode cX6_init 10 = .ok (.bipush 10, 2) := by decide +kernel
theorem dX6_init_12 : decode cX6_init 12 = .ok (.putfield 13, 3) := by decide +kernel
theorem dX6_init_15 : decode cX6_init 15 = .ok (.aload_n 0, 1) := by decide +kernel
theorem dX6_init_16 : decode cX6_init 16 = .ok (.bipush 30, 2) := by decide +kernel
theorem dX6_init_18 : decode cX6_init 18 = .ok (.putfield 16, 3) := by decide +kernel
theorem dX6_init_21 : decode cX6_init 21 = .ok (.aload_n 0, 1) := by decide +kernel
theorem dX6_init_22 : decode cX6_init 22 = .ok (.bipush 6, 2) := by decide +kernel
theorem dX6_init_24 : decode cX6_init 24 = .ok (.newarray .int, 2) := by decide +kernel
theorem dX6_init_26 : decode cX6_init 26 = .ok (.putfield 19, 3) := by decide +kernel
theorem dX6_init_29 : decode cX6_init 29 = .ok (.aload_n 0, 1) := by decide +kernel
theorem dX6_init_30 : decode cX6_init 30 = .ok (.bipush 6, 2) := by decide +kernel
theorem dX6_init_32 : decode cX6_init 32 = .ok (.newarray .int, 2) := by decide +kernel
theorem dX6_init_34 : decode cX6_init 34 = .ok (.putfield 23, 3) := by decide +kernel
theorem dX6_init_37 : decode cX6_init 37 = .ok (.aload_n 0, 1) := by decide +kernel
theorem dX6_init_38 : decode cX6_init 38 = .ok (.bipush 6, 2) := by decide +kernel
theorem dX6_init_40 : decode cX6_init 40 = .ok (.newarray .int, 2) := by decide +kernel
theorem dX6_init_42 : decode cX6_init 42 = .ok (.putfield 26, 3) := by decide +kernel
theorem dX6_init_45 : decode cX6_init 45 = .ok (.aload_n 0, 1) := by decide +kernel
theorem dX6_init_46 : decode cX6_init 46 = .ok (.bipush 6, 2) := by decide +kernel
theorem dX6_init_48 : decode cX6_init 48 = .ok (.newarray .int, 2) := by decide +kernel
theorem dX6_init_50 : decode cX6_init 50 = .ok (.putfield 29, 3) := by decide +kernel
theorem dX6_init_53 : decode cX6_init 53 = .ok (.aload_n 0, 1) := by decide +kernel
theorem dX6_init_54 : decode cX6_init 54 = .ok (.bipush 6, 2) := by decide +kernel
theorem dX6_init_56 : decode cX6_init 56 = .ok (.newarray .int, 2) := by decide +kernel
theorem dX6_init_58 : decode cX6_init 58 = .ok (.putfield 32, 3) := by decide +kernel
theorem dX6_init_61 : decode cX6_init 61 = .ok (.aload_n 0, 1) := by decide +kernel
theorem dX6_init_62 : decode cX6_init 62 = .ok (.bipush 6, 2) := by decide +kernel
theorem dX6_init_64 : decode cX6_init 64 = .ok (.newarray .boolean, 2) := by decide +kernel
theorem dX6_init_66 : decode cX6_init 66 = .ok (.putfield 35, 3) := by decide +kernel
theorem dX6_init_69 : decode cX6_init 69 = .ok (.aload_n 0, 1) := by decide +kernel
theorem dX6_init_70 : decode cX6_init 70 = .ok (.bipush 6, 2) := by decide +kernel
theorem dX6_init_72 : decode cX6_init 72 = .ok (.newarray .int, 2) := by decide +kernel
theorem dX6_init_74 : decode cX6_init 74 = .ok (.putfield 39, 3) := by decide +kernel
theorem dX6_init_77 : decode cX6_init 77 = .ok (.aload_n 0, 1) := by decide +kernel
theorem dX6_init_78 : decode cX6_init 78 = .ok (.bipush 6, 2) := by decide +kernel
theorem dX6_init_80 : decode cX6_init 80 = .ok (.newarray .int, 2) := by decide +kernel
theorem dX6_init_82 : decode cX6_init 82 = .ok (.putfield 42, 3) := by decide +kernel
theorem dX6_init_85 : decode cX6_init 85 = .ok (.aload_n 0, 1) := by decide +kernel
theorem dX6_init_86 : decode cX6_init 86 = .ok (.bipush 6, 2) := by decide +kernel
theorem dX6_init_88 : decode cX6_init 88 = .ok (.newarray .int, 2) := by decide +kernel
theorem dX6_init_90 : decode cX6_init 90 = .ok (.putfield 45, 3) := by decide +kernel
theorem dX6_init_93 : decode cX6_init 93 = .ok (.aload_n 0, 1) := by decide +kernel
theorem dX6_init_94 : decode cX6_init 94 = .ok (.bipush 6, 2) := by decide +kernel
theorem dX6_init_96 : decode cX6_init 96 = .ok (.newarray .int, 2) := by decide +kernel
theorem dX6_init_98 : decode cX6_init 98 = .ok (.putfield 48, 3) := by decide +kernel
theorem dX6_init_101 : decode cX6_init 101 = .ok (.aload_n 0, 1) := by decide +kernel
theorem dX6_init_102 : decode cX6_init 102 = .ok (.iconst 4, 1) := by decide +kernel
theorem dX6_init_103 : decode cX6_init 103 = .ok (.newarray .int, 2) := by decide +kernel
theorem dX6_init_105 : decode cX6_init 105 = .ok (.putfield 51, 3) := by decide +kernel
theorem dX6_init_108 : decode cX6_init 108 = .ok (.aload_n 0, 1) := by decide +kernel
theorem dX6_init_109 : decode cX6_init 109 = .ok (.iconst 4, 1) := by decide +kernel
theorem dX6_init_110 : decode cX6_init 110 = .ok (.newarray .int, 2) := by decide +kernel
theorem dX6_init_112 : decode cX6_init 112 = .ok (.putfield 54, 3) := by decide +kernel
theorem dX6_init_115 : decode cX6_init 115 = .ok (.aload_n 0, 1) := by decide +kernel
theorem dX6_init_116 : decode cX6_init 116 = .ok (.iconst 4, 1) := by decide +kernel
theorem dX6_init_117 : decode cX6_init 117 = .ok (.newarray .int, 2) := by decide +kernel
theorem dX6_init_119 : decode cX6_init 119 = .ok (.putfield 57, 3) := by decide +kernel
theorem dX6_init_122 : decode cX6_init 122 = .ok (.aload_n 0, 1) := by decide +kernel
theorem dX6_init_123 : decode cX6_init 123 = .ok (.iconst 4, 1) := by decide +kernel
theorem dX6_init_124 : decode cX6_init 124 = .ok (.newarray .int, 2) := by decide +kernel
theorem dX6_init_126 : decode cX6_init 126 = .ok (.putfield 60, 3) := by decide +kernel
theorem dX6_init_129 : decode cX6_init 129 = .ok (.aload_n 0, 1) := by decide +kernel
theorem dX6_init_130 : decode cX6_init 130 = .ok (.iconst 4, 1) := by decide +kernel
theorem dX6_init_131 : decode cX6_init 131 = .ok (.newarray .int, 2) := by decide +kernel
theorem dX6_init_133 : decode cX6_init 133 = .ok (.putfield 63, 3) := by decide +kernel
theorem dX6_init_136 : decode cX6_init 136 = .ok (.aload_n 0, 1) := by decide +kernel
theorem dX6_init_137 : decode cX6_init 137 = .ok (.iconst 4, 1) := by decide +kernel
theorem dX6_init_138 : decode cX6_init 138 = .ok (.newarray .int, 2) := by decide +kernel
theorem dX6_init_140 : decode cX6_init 140 = .ok (.putfield 66, 3) := by decide +kernel
theorem dX6_init_143 : decode cX6_init 143 = .ok (.aload_n 0, 1) := by decide +kernel
theorem dX6_init_144 : decode cX6_init 144 = .ok (.bipush 28, 2) := by decide +kernel
theorem dX6_init_146 : decode cX6_init 146 = .ok (.newarray .int, 2) := by decide +kernel
theorem dX6_init_148 : decode cX6_init 148 = .ok (.putfield 69, 3) := by decide +kernel
theorem dX6_init_151 : decode cX6_init 151 = .ok (.aload_n 0, 1) := by decide +kernel
theorem dX6_init_152 : decode cX6_init 152 = .ok (.sipush 1600, 3) := by decide +kernel
theorem dX6_init_155 : decode cX6_init 155 = .ok (.newarray .int, 2) := by decide +kernel
theorem dX6_init_157 : decode cX6_init 157 = .ok (.putfield 72, 3) := by decide +kernel
theorem dX6_init_160 : decode cX6_init 160 = .ok (.aload_n 0, 1) := by decide +kernel
theorem dX6_init_161 : decode cX6_init 161 = .ok (.sipush 1600, 3) := by decide +kernel
theorem dX6_init_164 : decode cX6_init 164 = .ok (.newarray .int, 2) := by decide +kernel
theorem dX6_init_166 : decode cX6_init 166 = .ok (.putfield 75, 3) := by decide +kernel
theorem dX6_init_169 : decode cX6_init 169 = .ok (.aload_n 0, 1) := by decide +kernel
theorem dX6_init_170 : decode cX6_init 170 = .ok (.sipush 400, 3) := by decide +kernel
theorem dX6_init_173 : decode cX6_init 173 = .ok (.newarray .int, 2) := by decide +kernel
theorem dX6_init_175 : decode cX6_init 175 = .ok (.putfield 78, 3) := by decide +kernel
theorem dX6_init_178 : decode cX6_init 178 = .ok (.aload_n 0, 1) := by decide +kernel
theorem dX6_init_179 : decode cX6_init 179 = .ok (.sipush 400, 3) := by decide +kernel
theorem dX6_init_182 : decode cX6_init 182 = .ok (.newarray .int, 2) := by decide +kernel
theorem dX6_init_184 : decode cX6_init 184 = .ok (.putfield 81, 3) := by decide +kernel
theorem dX6_init_187 : decode cX6_init 187 = .ok (.aload_n 0, 1) := by decide +kernel
theorem dX6_init_188 : decode cX6_init 188 = .ok (.sipush 400, 3) := by decide +kernel
theorem dX6_init_191 : decode cX6_init 191 = .ok (.newarray .int, 2) := by decide +kernel
theorem dX6_init_193 : decode cX6_init 193 = .ok (.putfield 84, 3) := by decide +kernel
theorem dX6_init_196 : decode cX6_init 196 = .ok (.iconst 0, 1) := by decide +kernel
theorem dX6_init_197 : decode cX6_init 197 = .ok (.istore_n 1, 1) := by decide +kernel
theorem dX6_init_198 : decode cX6_init 198 = .ok (.iload_n 1, 1) := by decide +kernel
theorem dX6_init_199 : decode cX6_init 199 = .ok (.bipush 6, 2) := by decide +kernel
theorem dX6_init_201 : decode cX6_init 201 = .ok (.if_icmp .ge 23, 3) := by decide +kernel
theorem dX6_init_204 : decode cX6_init 204 = .ok (.aload_n 0, 1) := by decide +kernel
theorem dX6_init_205 : decode cX6_init 205 = .ok (.getfield 19, 3) := by decide +kernel
theorem dX6_init_208 : decode cX6_init 208 = .ok (.iload_n 1, 1) := by decide +kernel
theorem dX6_init_209 : decode cX6_init 209 = .ok (.iconst 5, 1) := by decide +kernel
theorem dX6_init_210 : decode cX6_init 210 = .ok (.iastore, 1) := by decide +kernel
theorem dX6_init_211 : decode cX6_init 211 = .ok (.aload_n 0, 1) := by decide +kernel
theorem dX6_init_212 : decode cX6_init 212 = .ok (.getfield 32, 3) := by decide +kernel
theorem dX6_init_215 : decode cX6_init 215 = .ok (.iload_n 1, 1) := by decide +kernel
theorem dX6_init_216 : decode cX6_init 216 = .ok (.iconst (-1), 1) := by decide +kernel
theorem dX6_init_217 : decode cX6_init 217 = .ok (.iastore, 1) := by decide +kernel
theorem dX6_init_218 : decode cX6_init 218 = .ok (.iinc 1 1, 3) := by decide +kernel
theorem dX6_init_221 : decode cX6_init 221 = .ok (.goto (-23), 3) := by decide +kernel
theorem dX6_init_224 : decode cX6_init 224 = .ok (.iconst 0, 1) := by decide +kernel
theorem dX6_init_225 : decode cX6_init 225 = .ok (.istore_n 1, 1) := by decide +kernel
theorem dX6_init_226 : decode cX6_init 226 = .ok (.iload_n 1, 1) := by decide +kernel
theorem dX6_init_227 : decode cX6_init 227 = .ok (.iconst 4, 1) := by decide +kernel
theorem dX6_init_228 : decode cX6_init 228 = .ok (.if_icmp .ge 25, 3) := by decide +kernel
theorem dX6_init_231 : decode cX6_init 231 = .ok (.aload_n 0, 1) := by decide +kernel
theorem dX6_init_232 : decode cX6_init 232 = .ok (.getfield 51, 3) := by decide +kernel
theorem dX6_init_235 : decode cX6_init 235 = .ok (.iload_n 1, 1) := by decide +kernel
theorem dX6_init_236 : decode cX6_init 236 = .ok (.sipush 1000, 3) := by decide +kernel
theorem dX6_init_239 : decode cX6_init 239 = .ok (.iastore, 1) := by decide +kernel
theorem dX6_init_240 : decode cX6_init 240 = .ok (.aload_n 0, 1) := by decide +kernel
theorem dX6_init_241 : decode cX6_init 241 = .ok (.getfield 57, 3) := by decide +kernel
theorem dX6_init_244 : decode cX6_init 244 = .ok (.iload_n 1, 1) := by decide +kernel
theorem dX6_init_245 : decode cX6_init 245 = .ok (.iconst 2, 1) := by decide +kernel
theorem dX6_init_246 : decode cX6_init 246 = .ok (.iastore, 1) := by decide +kernel
theorem dX6_init_247 : decode cX6_init 247 = .ok (.iinc 1 1, 3) := by decide +kernel
theorem dX6_init_250 : decode cX6_init 250 = .ok (.goto (-24), 3) := by decide +kernel
theorem dX6_init_253 : decode cX6_init 253 = .ok (.return_, 1) := by decide +kernel
theorem dX6_thrown_0 : decode cX6_thrown 0 = .ok (.aload_n 0, 1) := by decide +kernel
theorem dX6_thrown_1 : decode cX6_thrown 1 = .ok (.getfield 87, 3) := by decide +kernel
theorem dX6_thrown_4 : decode cX6_thrown 4 = .ok (.ireturn, 1) := by decide +kernel
theorem dX6_holds_0 : decode cX6_holds 0 = .ok (.aload_n 0, 1) := by decide +kernel
theorem dX6_holds_1 : decode cX6_holds 1 = .ok (.iload_n 1, 1) := by decide +kernel
theorem dX6_holds_2 : decode cX6_holds 2 = .ok (.putfield 87, 3) := by decide +kernel
theorem dX6_holds_5 : decode cX6_holds 5 = .ok (.iload_n 1, 1) := by decide +kernel
theorem dX6_holds_6 : decode cX6_holds 6 = .ok (.ifCond .ne 7, 3) := by decide +kernel
theorem dX6_holds_9 : decode cX6_holds 9 = .ok (.iconst 1, 1) := by decide +kernel
theorem dX6_holds_10 : decode cX6_holds 10 = .ok (.goto 4, 3) := by decide +kernel
theorem dX6_holds_13 : decode cX6_holds 13 = .ok (.iconst 0, 1) := by decide +kernel
theorem dX6_holds_14 : decode cX6_holds 14 = .ok (.ireturn, 1) := by decide +kernel
theorem dX6_isIn_0 : decode cX6_isIn 0 = .ok (.iload_n 0, 1) := by decide +kernel
theorem dX6_isIn_1 : decode cX6_isIn 1 = .ok (.iload_n 1, 1) := by decide +kernel
theorem dX6_isIn_2 : decode cX6_isIn 2 = .ok (.if_icmp .lt 12, 3) := by decide +kernel
theorem dX6_isIn_5 : decode cX6_isIn 5 = .ok (.iload_n 0, 1) := by decide +kernel
theorem dX6_isIn_6 : decode cX6_isIn 6 = .ok (.iload_n 2, 1) := by decide +kernel
theorem dX6_isIn_7 : decode cX6_isIn 7 = .ok (.if_icmp .gt 7, 3) := by decide +kernel
theorem dX6_isIn_10 : decode cX6_isIn 10 = .ok (.iconst 1, 1) := by decide +kernel
theorem dX6_isIn_11 : decode cX6_isIn 11 = .ok (.goto 4, 3) := by decide +kernel
theorem dX6_isIn_14 : decode cX6_isIn 14 = .ok (.iconst 0, 1) := by decide +kernel
theorem dX6_isIn_15 : decode cX6_isIn 15 = .ok (.ireturn, 1) := by decide +kernel
set_option maxRecDepth 20000 in
theorem ggX6_setRate_X6_isIn : GoodIn wsX6_setRate wsX6_isIn := goodIn_r _ [7] (by decide +kernel) (by decide +kernel)
set_option maxRecDepth 20000 in
theorem gX6_setRate_X6_isIn : GoodIn wsX6_setRate (va_wsS RX6 90 yX6_isIn wsX6_isIn) := goodIn_app (goodIn_of _ (by decide +kernel)) ggX6_setRate_X6_isIn
set_option maxRecDepth 20000 in
theorem ggX6_setRate_X6_holds : GoodIn wsX6_setRate wsX6_holds := goodIn_r _ [11, 12, 13, 14, 15, 16, 17, 18, 19, 20, 21, 22, 23, 24, 25, 26, 27, 28, 29, 30, 31, 32, 33, 34, 35, 36, 37, 38, 39, 40, 41, 42, 43, 44, 45, 46] (by decide +kernel) (by decide +kernel)
set_option maxRecDepth 20000 in
theorem gX6_setRate_X6_holds : GoodIn wsX6_setRate (wsV RX6 94 RX6 yX6_holds wsX6_holds) := goodIn_app (goodIn_of _ (by decide +kernel)) ggX6_setRate_X6_holds
theorem dX6_setRate_0 : decode cX6_setRate 0 = .ok (.aload_n 0, 1) := by decide +kernel
theorem dX6_setRate_1 : decode cX6_setRate 1 = .ok (.iload_n 1, 1) := by decide +kernel
theorem dX6_setRate_2 : decode cX6_setRate 2 = .ok (.iconst 1, 1) := by decide +kernel
theorem dX6_setRate_3 : decode cX6_setRate 3 = .ok (.bipush 50, 2) := by decide +kernel
theorem dX6_setRate_5 : decode cX6_setRate 5 = .ok (.invokestatic 90, 3) := by decide +kernel
theorem dX6_setRate_8 : decode cX6_setRate 8 = .ok (.ifCond .eq 17, 3) := by decide +kernel
theorem dX6_setRate_11 : decode cX6_setRate 11 = .ok (.iload_n 2, 1) := by decide +kernel
theorem dX6_setRate_12 : decode cX6_setRate 12 = .ok (.iconst 1, 1) := by decide +kernel
theorem dX6_setRate_13 : decode cX6_setRate 13 = .ok (.bipush 60, 2) := by decide +kernel
theorem dX6_setRate_15 : decode cX6_setRate 15 = .ok (.invokestatic 90, 3) := by decide +kernel
theorem dX6_setRate_18 : decode cX6_setRate 18 = .ok (.ifCond .eq 7, 3) := by decide +kernel
theorem dX6_setRate_21 : decode cX6_setRate 21 = .ok (.iconst 0, 1) := by decide +kernel
theorem dX6_setRate_22 : decode cX6_setRate 22 = .ok (.goto 4, 3) := by decide +kernel
theorem dX6_setRate_25 : decode cX6_setRate 25 = .ok (.iconst 1, 1) := by decide +kernel
theorem dX6_setRate_26 : decode cX6_setRate 26 = .ok (.invokevirtual 94, 3) := by decide +kernel
theorem dX6_setRate_29 : decode cX6_setRate 29 = .ok (.ifCond .ne 5, 3) := by decide +kernel
theorem dX6_setRate_32 : decode cX6_setRate 32 = .ok (.iconst 0, 1) := by decide +kernel
theorem dX6_setRate_33 : decode cX6_setRate 33 = .ok (.ireturn, 1) := by decide +kernel
theorem dX6_setRate_34 : decode cX6_setRate 34 = .ok (.aload_n 0, 1) := by decide +kernel
theorem dX6_setRate_35 : decode cX6_setRate 35 = .ok (.getfield 7, 3) := by decide +kernel
theorem dX6_setRate_38 : decode cX6_setRate 38 = .ok (.istore_n 3, 1) := by decide +kernel
theorem dX6_setRate_39 : decode cX6_setRate 39 = .ok (.aload_n 0, 1) := by decide +kernel
theorem dX6_setRate_40 : decode cX6_setRate 40 = .ok (.iload_n 1, 1) := by decide +kernel
theorem dX6_setRate_41 : decode cX6_setRate 41 = .ok (.putfield 7, 3) := by decide +kernel
theorem dX6_setRate_44 : decode cX6_setRate 44 = .ok (.aload_n 0, 1) := by decide +kernel
theorem dX6_setRate_45 : decode cX6_setRate 45 = .ok (.iload_n 2, 1) := by decide +kernel
theorem dX6_setRate_46 : decode cX6_setRate 46 = .ok (.putfield 13, 3) := by decide +kernel
theorem dX6_setRate_49 : decode cX6_setRate 49 = .ok (.iconst 0, 1) := by decide +kernel
theorem dX6_setRate_50 : decode cX6_setRate 50 = .ok (.istore 4, 2) := by decide +kernel
theorem dX6_setRate_52 : decode cX6_setRate 52 = .ok (.iload 4, 2) := by decide +kernel
theorem dX6_setRate_54 : decode cX6_setRate 54 = .ok (.bipush 6, 2) := by decide +kernel
theorem dX6_setRate_56 : decode cX6_setRate 56 = .ok (.if_icmp .ge 44, 3) := by decide +kernel
theorem dX6_setRate_59 : decode cX6_setRate 59 = .ok (.aload_n 0, 1) := by decide +kernel
theorem dX6_setRate_60 : decode cX6_setRate 60 = .ok (.getfield 19, 3) := by decide +kernel
theorem dX6_setRate_63 : decode cX6_setRate 63 = .ok (.iload 4, 2) := by decide +kernel
theorem dX6_setRate_65 : decode cX6_setRate 65 = .ok (.aload_n 0, 1) := by decide +kernel
theorem dX6_setRate_66 : decode cX6_setRate 66 = .ok (.getfield 19, 3) := by decide +kernel
theorem dX6_setRate_69 : decode cX6_setRate 69 = .ok (.iload 4, 2) := by decide +kernel
theorem dX6_setRate_71 : decode cX6_setRate 71 = .ok (.iaload, 1) := by decide +kernel
theorem dX6_setRate_72 : decode cX6_setRate 72 = .ok (.aload_n 0, 1) := by decide +kernel
theorem dX6_setRate_73 : decode cX6_setRate 73 = .ok (.getfield 7, 3) := by decide +kernel
theorem dX6_setRate_76 : decode cX6_setRate 76 = .ok (.if_icmp .le 10, 3) := by decide +kernel
theorem dX6_setRate_79 : decode cX6_setRate 79 = .ok (.aload_n 0, 1) := by decide +kernel
theorem dX6_setRate_80 : decode cX6_setRate 80 = .ok (.getfield 7, 3) := by decide +kernel
theorem dX6_setRate_83 : decode cX6_setRate 83 = .ok (.goto 10, 3) := by decide +kernel
theorem dX6_setRate_86 : decode cX6_setRate 86 = .ok (.aload_n 0, 1) := by decide +kernel
theorem dX6_setRate_87 : decode cX6_setRate 87 = .ok (.getfield 19, 3) := by decide +kernel
theorem dX6_setRate_90 : decode cX6_setRate 90 = .ok (.iload 4, 2) := by decide +kernel
theorem dX6_setRate_92 : decode cX6_setRate 92 = .ok (.iaload, 1) := by decide +kernel
theorem dX6_setRate_93 : decode cX6_setRate 93 = .ok (.iastore, 1) := by decide +kernel
theorem dX6_setRate_94 : decode cX6_setRate 94 = .ok (.iinc 4 1, 3) := by decide +kernel
theorem dX6_setRate_97 : decode cX6_setRate 97 = .ok (.goto (-45), 3) := by decide +kernel
theorem dX6_setRate_100 : decode cX6_setRate 100 = .ok (.iload_n 3, 1) := by decide +kernel
theorem dX6_setRate_101 : decode cX6_setRate 101 = .ok (.ireturn, 1) := by decide +kernel
set_option maxRecDepth 20000 in
theorem ggX6_setFold_X6_isIn : GoodIn wsX6_setFold wsX6_isIn := goodIn_r _ [5] (by decide +kernel) (by decide +kernel)
set_option maxRecDepth 20000 in
theorem gX6_setFold_X6_isIn : GoodIn wsX6_setFold (va_wsS RX6 90 yX6_isIn wsX6_isIn) := goodIn_app (goodIn_of _ (by decide +kernel)) ggX6_setFold_X6_isIn
set_option maxRecDepth 20000 in
theorem ggX6_setFold_X6_holds : GoodIn wsX6_setFold wsX6_holds := goodIn_r _ [9, 10, 11, 12, 13, 14, 15, 16, 17, 18, 19, 20, 21, 22, 23, 24, 25, 26, 27, 28, 29, 30, 31, 32, 33, 34, 35, 36, 37, 38, 39, 40, 41, 42, 43, 44] (by decide +kernel) (by decide +kernel)
set_option maxRecDepth 20000 in
theorem gX6_setFold_X6_holds : GoodIn wsX6_setFold (wsV RX6 94 RX6 yX6_holds wsX6_holds) := goodIn_app (goodIn_of _ (by decide +kernel)) ggX6_setFold_X6_holds
theorem dX6_setFold_0 : decode cX6_setFold 0 = .ok (.aload_n 0, 1) := by decide +kernel
theorem dX6_setFold_1 : decode cX6_setFold 1 = .ok (.iload_n 1, 1) := by decide +kernel
theorem dX6_setFold_2 : decode cX6_setFold 2 = .ok (.iconst 0, 1) := by decide +kernel
theorem dX6_setFold_3 : decode cX6_setFold 3 = .ok (.bipush 100, 2) := by decide +kernel
theorem dX6_setFold_5 : decode cX6_setFold 5 = .ok (.invokestatic 90, 3) := by decide +kernel
theorem dX6_setFold_8 : decode cX6_setFold 8 = .ok (.ifCond .eq 7, 3) := by decide +kernel
theorem dX6_setFold_11 : decode cX6_setFold 11 = .ok (.iconst 0, 1) := by decide +kernel
theorem dX6_setFold_12 : decode cX6_setFold 12 = .ok (.goto 4, 3) := by decide +kernel
theorem dX6_setFold_15 : decode cX6_setFold 15 = .ok (.iconst 1, 1) := by decide +kernel
theorem dX6_setFold_16 : decode cX6_setFold 16 = .ok (.invokevirtual 94, 3) := by decide +kernel
theorem dX6_setFold_19 : decode cX6_setFold 19 = .ok (.ifCond .ne 5, 3) := by decide +kernel
theorem dX6_setFold_22 : decode cX6_setFold 22 = .ok (.iconst 0, 1) := by decide +kernel
theorem dX6_setFold_23 : decode cX6_setFold 23 = .ok (.ireturn, 1) := by decide +kernel
theorem dX6_setFold_24 : decode cX6_setFold 24 = .ok (.aload_n 0, 1) := by decide +kernel
theorem dX6_setFold_25 : decode cX6_setFold 25 = .ok (.getfield 16, 3) := by decide +kernel
theorem dX6_setFold_28 : decode cX6_setFold 28 = .ok (.istore_n 2, 1) := by decide +kernel
theorem dX6_setFold_29 : decode cX6_setFold 29 = .ok (.aload_n 0, 1) := by decide +kernel
theorem dX6_setFold_30 : decode cX6_setFold 30 = .ok (.iload_n 1, 1) := by decide +kernel
theorem dX6_setFold_31 : decode cX6_setFold 31 = .ok (.putfield 16, 3) := by decide +kernel
theorem dX6_setFold_34 : decode cX6_setFold 34 = .ok (.iload_n 2, 1) := by decide +kernel
theorem dX6_setFold_35 : decode cX6_setFold 35 = .ok (.ireturn, 1) := by decide +kernel
set_option maxRecDepth 20000 in
theorem ggX6_setRule_X6_isIn : GoodIn wsX6_setRule wsX6_isIn := goodIn_r _ [9] (by decide +kernel) (by decide +kernel)
set_option maxRecDepth 20000 in
theorem gX6_setRule_X6_isIn : GoodIn wsX6_setRule (va_wsS RX6 90 yX6_isIn wsX6_isIn) := goodIn_app (goodIn_of _ (by decide +kernel)) ggX6_setRule_X6_isIn
set_option maxRecDepth 20000 in
theorem ggX6_setRule_X6_holds : GoodIn wsX6_setRule wsX6_holds := goodIn_r _ [13, 14, 15, 16, 17, 18, 19, 20, 21, 22, 23, 24, 25, 26, 27, 28, 29, 30, 31, 32, 33, 34, 35, 36, 37, 38, 39, 40, 41, 42, 43, 44, 45, 46, 47, 48] (by decide +kernel) (by decide +kernel)
set_option maxRecDepth 20000 in
theorem gX6_setRule_X6_holds : GoodIn wsX6_setRule (wsV RX6 94 RX6 yX6_holds wsX6_holds) := goodIn_app (goodIn_of _ (by decide +kernel)) ggX6_setRule_X6_holds
theorem dX6_setRule_0 : decode cX6_setRule 0 = .ok (.iload_n 1, 1) := by decide +kernel
theorem dX6_setRule_1 : decode cX6_setRule 1 = .ok (.iconst 0, 1) := by decide +kernel
theorem dX6_setRule_2 : decode cX6_setRule 2 = .ok (.iconst 5, 1) := by decide +kernel
theorem dX6_setRule_3 : decode cX6_setRule 3 = .ok (.invokestatic 90, 3) := by decide +kernel
theorem dX6_setRule_6 : decode cX6_setRule 6 = .ok (.ifCond .eq 17, 3) := by decide +kernel
theorem dX6_setRule_9 : decode cX6_setRule 9 = .ok (.iload 4, 2) := by decide +kernel
theorem dX6_setRule_11 : decode cX6_setRule 11 = .ok (.iconst (-1), 1) := by decide +kernel
theorem dX6_setRule_12 : decode cX6_setRule 12 = .ok (.iconst 5, 1) := by decide +kernel
theorem dX6_setRule_13 : decode cX6_setRule 13 = .ok (.invokestatic 90, 3) := by decide +kernel
theorem dX6_setRule_16 : decode cX6_setRule 16 = .ok (.ifCond .eq 7, 3) := by decide +kernel
theorem dX6_setRule_19 : decode cX6_setRule 19 = .ok (.iconst 1, 1) := by decide +kernel
theorem dX6_setRule_20 : decode cX6_setRule 20 = .ok (.goto 4, 3) := by decide +kernel
theorem dX6_setRule_23 : decode cX6_setRule 23 = .ok (.iconst 0, 1) := by decide +kernel
theorem dX6_setRule_24 : decode cX6_setRule 24 = .ok (.istore 6, 2) := by decide +kernel
theorem dX6_setRule_26 : decode cX6_setRule 26 = .ok (.iload_n 2, 1) := by decide +kernel
theorem dX6_setRule_27 : decode cX6_setRule 27 = .ok (.iconst 0, 1) := by decide +kernel
theorem dX6_setRule_28 : decode cX6_setRule 28 = .ok (.sipush 255, 3) := by decide +kernel
theorem dX6_setRule_31 : decode cX6_setRule 31 = .ok (.invokestatic 90, 3) := by decide +kernel
theorem dX6_setRule_34 : decode cX6_setRule 34 = .ok (.ifCond .eq 27, 3) := by decide +kernel
theorem dX6_setRule_37 : decode cX6_setRule 37 = .ok (.iload_n 3, 1) := by decide +kernel
theorem dX6_setRule_38 : decode cX6_setRule 38 = .ok (.iconst 0, 1) := by decide +kernel
theorem dX6_setRule_39 : decode cX6_setRule 39 = .ok (.bipush 7, 2) := by decide +kernel
theorem dX6_setRule_41 : decode cX6_setRule 41 = .ok (.invokestatic 90, 3) := by decide +kernel
theorem dX6_setRule_44 : decode cX6_setRule 44 = .ok (.ifCond .eq 17, 3) := by decide +kernel
theorem dX6_setRule_47 : decode cX6_setRule 47 = .ok (.iload 5, 2) := by decide +kernel
theorem dX6_setRule_49 : decode cX6_setRule 49 = .ok (.iconst 0, 1) := by decide +kernel
theorem dX6_setRule_50 : decode cX6_setRule 50 = .ok (.iconst 4, 1) := by decide +kernel
theorem dX6_setRule_51 : decode cX6_setRule 51 = .ok (.invokestatic 90, 3) := by decide +kernel
theorem dX6_setRule_54 : decode cX6_setRule 54 = .ok (.ifCond .eq 7, 3) := by decide +kernel
theorem dX6_setRule_57 : decode cX6_setRule 57 = .ok (.iconst 1, 1) := by decide +kernel
theorem dX6_setRule_58 : decode cX6_setRule 58 = .ok (.goto 4, 3) := by decide +kernel
theorem dX6_setRule_61 : decode cX6_setRule 61 = .ok (.iconst 0, 1) := by decide +kernel
theorem dX6_setRule_62 : decode cX6_setRule 62 = .ok (.istore 7, 2) := by decide +kernel
theorem dX6_setRule_64 : decode cX6_setRule 64 = .ok (.aload_n 0, 1) := by decide +kernel
theorem dX6_setRule_65 : decode cX6_setRule 65 = .ok (.iload 6, 2) := by decide +kernel
theorem dX6_setRule_67 : decode cX6_setRule 67 = .ok (.ifCond .ne 7, 3) := by decide +kernel
theorem dX6_setRule_70 : decode cX6_setRule 70 = .ok (.iconst 1, 1) := by decide +kernel
theorem dX6_setRule_71 : decode cX6_setRule 71 = .ok (.goto 13, 3) := by decide +kernel
theorem dX6_setRule_74 : decode cX6_setRule 74 = .ok (.iload 7, 2) := by decide +kernel
theorem dX6_setRule_76 : decode cX6_setRule 76 = .ok (.ifCond .eq 7, 3) := by decide +kernel
theorem dX6_setRule_79 : decode cX6_setRule 79 = .ok (.iconst 0, 1) := by decide +kernel
theorem dX6_setRule_80 : decode cX6_setRule 80 = .ok (.goto 4, 3) := by decide +kernel
theorem dX6_setRule_83 : decode cX6_setRule 83 = .ok (.iconst 2, 1) := by decide +kernel
theorem dX6_setRule_84 : decode cX6_setRule 84 = .ok (.invokevirtual 94, 3) := by decide +kernel
theorem dX6_setRule_87 : decode cX6_setRule 87 = .ok (.ifCond .ne 5, 3) := by decide +kernel
theorem dX6_setRule_90 : decode cX6_setRule 90 = .ok (.iconst 0, 1) := by decide +kernel
theorem dX6_setRule_91 : decode cX6_setRule 91 = .ok (.ireturn, 1) := by decide +kernel
theorem dX6_setRule_92 : decode cX6_setRule 92 = .ok (.aload_n 0, 1) := by decide +kernel
theorem dX6_setRule_93 : decode cX6_setRule 93 = .ok (.getfield 35, 3) := by decide +kernel
theorem dX6_setRule_96 : decode cX6_setRule 96 = .ok (.iload_n 1, 1) := by decide +kernel
theorem dX6_setRule_97 : decode cX6_setRule 97 = .ok (.iconst 1, 1) := by decide +kernel
theorem dX6_setRule_98 : decode cX6_setRule 98 = .ok (.bastore, 1) := by decide +kernel
theorem dX6_setRule_99 : decode cX6_setRule 99 = .ok (.aload_n 0, 1) := by decide +kernel
theorem dX6_setRule_100 : decode cX6_setRule 100 = .ok (.getfield 39, 3) := by decide +kernel
theorem dX6_setRule_103 : decode cX6_setRule 103 = .ok (.iload_n 1, 1) := by decide +kernel
theorem dX6_setRule_104 : decode cX6_setRule 104 = .ok (.iload_n 2, 1) := by decide +kernel
theorem dX6_setRule_105 : decode cX6_setRule 105 = .ok (.iastore, 1) := by decide +kernel
theorem dX6_setRule_106 : decode cX6_setRule 106 = .ok (.aload_n 0, 1) := by decide +kernel
theorem dX6_setRule_107 : decode cX6_setRule 107 = .ok (.getfield 42, 3) := by decide +kernel
theorem dX6_setRule_110 : decode cX6_setRule 110 = .ok (.iload_n 1, 1) := by decide +kernel
theorem dX6_setRule_111 : decode cX6_setRule 111 = .ok (.iload_n 3, 1) := by decide +kernel
theorem dX6_setRule_112 : decode cX6_setRule 112 = .ok (.iastore, 1) := by decide +kernel
theorem dX6_setRule_113 : decode cX6_setRule 113 = .ok (.aload_n 0, 1) := by decide +kernel
theorem dX6_setRule_114 : decode cX6_setRule 114 = .ok (.getfield 45, 3) := by decide +kernel
theorem dX6_setRule_117 : decode cX6_setRule 117 = .ok (.iload_n 1, 1) := by decide +kernel
theorem dX6_setRule_118 : decode cX6_setRule 118 = .ok (.iload 4, 2) := by decide +kernel
theorem dX6_setRule_120 : decode cX6_setRule 120 = .ok (.iastore, 1) := by decide +kernel
theorem dX6_setRule_121 : decode cX6_setRule 121 = .ok (.aload_n 0, 1) := by decide +kernel
theorem dX6_setRule_122 : decode cX6_setRule 122 = .ok (.getfield 48, 3) := by decide +kernel
theorem dX6_setRule_125 : decode cX6_setRule 125 = .ok (.iload_n 1, 1) := by decide +kernel
theorem dX6_setRule_126 : decode cX6_setRule 126 = .ok (.iload 5, 2) := by decide +kernel
theorem dX6_setRule_128 : decode cX6_setRule 128 = .ok (.iastore, 1) := by decide +kernel
theorem dX6_setRule_129 : decode cX6_setRule 129 = .ok (.iconst 0, 1) := by decide +kernel
theorem dX6_setRule_130 : decode cX6_setRule 130 = .ok (.istore 8, 2) := by decide +kernel
theorem dX6_setRule_132 : decode cX6_setRule 132 = .ok (.iconst 0, 1) := by decide +kernel
theorem dX6_setRule_133 : decode cX6_setRule 133 = .ok (.istore 9, 2) := by decide +kernel
theorem dX6_setRule_135 : decode cX6_setRule 135 = .ok (.iload 9, 2) := by decide +kernel
theorem dX6_setRule_137 : decode cX6_setRule 137 = .ok (.bipush 6, 2) := by decide +kernel
theorem dX6_setRule_139 : decode cX6_setRule 139 = .ok (.if_icmp .ge 29, 3) := by decide +kernel
theorem dX6_setRule_142 : decode cX6_setRule 142 = .ok (.iload 8, 2) := by decide +kernel
theorem dX6_setRule_144 : decode cX6_setRule 144 = .ok (.aload_n 0, 1) := by decide +kernel
theorem dX6_setRule_145 : decode cX6_setRule 145 = .ok (.getfield 35, 3) := by decide +kernel
theorem dX6_setRule_148 : decode cX6_setRule 148 = .ok (.iload 9, 2) := by decide +kernel
theorem dX6_setRule_150 : decode cX6_setRule 150 = .ok (.baload, 1) := by decide +kernel
theorem dX6_setRule_151 : decode cX6_setRule 151 = .ok (.ifCond .eq 7, 3) := by decide +kernel
theorem dX6_setRule_154 : decode cX6_setRule 154 = .ok (.iconst 1, 1) := by decide +kernel
theorem dX6_setRule_155 : decode cX6_setRule 155 = .ok (.goto 4, 3) := by decide +kernel
theorem dX6_setRule_158 : decode cX6_setRule 158 = .ok (.iconst 0, 1) := by decide +kernel
theorem dX6_setRule_159 : decode cX6_setRule 159 = .ok (.iadd, 1) := by decide +kernel
theorem dX6_setRule_160 : decode cX6_setRule 160 = .ok (.istore 8, 2) := by decide +kernel
theorem dX6_setRule_162 : decode cX6_setRule 162 = .ok (.iinc 9 1, 3) := by decide +kernel
theorem dX6_setRule_165 : decode cX6_setRule 165 = .ok (.goto (-30), 3) := by decide +kernel
theorem dX6_setRule_168 : decode cX6_setRule 168 = .ok (.iload 8, 2) := by decide +kernel
theorem dX6_setRule_170 : decode cX6_setRule 170 = .ok (.ireturn, 1) := by decide +kernel
set_option maxRecDepth 20000 in
theorem ggX6_removeRule_X6_isIn : GoodIn wsX6_removeRule wsX6_isIn := goodIn_r _ [5] (by decide +kernel) (by decide +kernel)
set_option maxRecDepth 20000 in
theorem gX6_removeRule_X6_isIn : GoodIn wsX6_removeRule (va_wsS RX6 90 yX6_isIn wsX6_isIn) := goodIn_app (goodIn_of _ (by decide +kernel)) ggX6_removeRule_X6_isIn
set_option maxRecDepth 20000 in
theorem ggX6_removeRule_X6_holds : GoodIn wsX6_removeRule wsX6_holds := goodIn_r _ [9, 10, 11, 12, 13, 14, 15, 16, 17, 18, 19, 20, 21, 22, 23, 24, 25, 26, 27, 28, 29, 30, 31, 32, 33, 34, 35, 36, 37, 38, 39, 40, 41, 42, 43, 44] (by decide +kernel) (by decide +kernel)
set_option maxRecDepth 20000 in
theorem gX6_removeRule_X6_holds : GoodIn wsX6_removeRule (wsV RX6 94 RX6 yX6_holds wsX6_holds) := goodIn_app (goodIn_of _ (by decide +kernel)) ggX6_removeRule_X6_holds
theorem dX6_removeRule_0 : decode cX6_removeRule 0 = .ok (.aload_n 0, 1) := by decide +kernel
theorem dX6_removeRule_1 : decode cX6_removeRule 1 = .ok (.iload_n 1, 1) := by decide +kernel
theorem dX6_removeRule_2 : decode cX6_removeRule 2 = .ok (.iconst 0, 1) := by decide +kernel
theorem dX6_removeRule_3 : decode cX6_removeRule 3 = .ok (.iconst 5, 1) := by decide +kernel
theorem dX6_removeRule_4 : decode cX6_removeRule 4 = .ok (.invokestatic 90, 3) := by decide +kernel
theorem dX6_removeRule_7 : decode cX6_removeRule 7 = .ok (.ifCond .eq 7, 3) := by decide +kernel
theorem dX6_removeRule_10 : decode cX6_removeRule 10 = .ok (.iconst 0, 1) := by decide +kernel
theorem dX6_removeRule_11 : decode cX6_removeRule 11 = .ok (.goto 4, 3) := by decide +kernel
theorem dX6_removeRule_14 : decode cX6_removeRule 14 = .ok (.iconst 1, 1) := by decide +kernel
theorem dX6_removeRule_15 : decode cX6_removeRule 15 = .ok (.invokevirtual 94, 3) := by decide +kernel
theorem dX6_removeRule_18 : decode cX6_removeRule 18 = .ok (.ifCond .ne 5, 3) := by decide +kernel
theorem dX6_removeRule_21 : decode cX6_removeRule 21 = .ok (.iconst 0, 1) := by decide +kernel
theorem dX6_removeRule_22 : decode cX6_removeRule 22 = .ok (.ireturn, 1) := by decide +kernel
theorem dX6_removeRule_23 : decode cX6_removeRule 23 = .ok (.aload_n 0, 1) := by decide +kernel
theorem dX6_removeRule_24 : decode cX6_removeRule 24 = .ok (.getfield 35, 3) := by decide +kernel
theorem dX6_removeRule_27 : decode cX6_removeRule 27 = .ok (.iload_n 1, 1) := by decide +kernel
theorem dX6_removeRule_28 : decode cX6_removeRule 28 = .ok (.baload, 1) := by decide +kernel
theorem dX6_removeRule_29 : decode cX6_removeRule 29 = .ok (.istore_n 2, 1) := by decide +kernel
theorem dX6_removeRule_30 : decode cX6_removeRule 30 = .ok (.aload_n 0, 1) := by decide +kernel
theorem dX6_removeRule_31 : decode cX6_removeRule 31 = .ok (.getfield 35, 3) := by decide +kernel
theorem dX6_removeRule_34 : decode cX6_removeRule 34 = .ok (.iload_n 1, 1) := by decide +kernel
theorem dX6_removeRule_35 : decode cX6_removeRule 35 = .ok (.iconst 0, 1) := by decide +kernel
theorem dX6_removeRule_36 : decode cX6_removeRule 36 = .ok (.bastore, 1) := by decide +kernel
theorem dX6_removeRule_37 : decode cX6_removeRule 37 = .ok (.iload_n 2, 1) := by decide +kernel
theorem dX6_removeRule_38 : decode cX6_removeRule 38 = .ok (.ireturn, 1) := by decide +kernel
set_option maxRecDepth 20000 in
theorem ggX6_isFile_X6_isIn : GoodIn wsX6_isFile wsX6_isIn := goodIn_r _ [4] (by decide +kernel) (by decide +kernel)
set_option maxRecDepth 20000 in
theorem gX6_isFile_X6_isIn : GoodIn wsX6_isFile (va_wsS RX6 90 yX6_isIn wsX6_isIn) := goodIn_app (goodIn_of _ (by decide +kernel)) ggX6_isFile_X6_isIn
theorem dX6_isFile_0 : decode cX6_isFile 0 = .ok (.iload_n 0, 1) := by decide +kernel
theorem dX6_isFile_1 : decode cX6_isFile 1 = .ok (.iconst 0, 1) := by decide +kernel
theorem dX6_isFile_2 : decode cX6_isFile 2 = .ok (.iconst 3, 1) := by decide +kernel
theorem dX6_isFile_3 : decode cX6_isFile 3 = .ok (.invokestatic 90, 3) := by decide +kernel
theorem dX6_isFile_6 : decode cX6_isFile 6 = .ok (.ireturn, 1) := by decide +kernel
set_option maxRecDepth 20000 in
theorem ggX6_setFile_X6_isIn : GoodIn wsX6_setFile wsX6_isIn := goodIn_r _ [9] (by decide +kernel) (by decide +kernel)
set_option maxRecDepth 20000 in
theorem gX6_setFile_X6_isIn : GoodIn wsX6_setFile (va_wsS RX6 90 yX6_isIn wsX6_isIn) := goodIn_app (goodIn_of _ (by decide +kernel)) ggX6_setFile_X6_isIn
set_option maxRecDepth 20000 in
theorem ggX6_setFile_X6_isFile : GoodIn wsX6_setFile wsX6_isFile := goodIn_r _ [12, 6, 7, 8, 9] (by decide +kernel) (by decide +kernel)
set_option maxRecDepth 20000 in
theorem gX6_setFile_X6_isFile : GoodIn wsX6_setFile (va_wsS RX6 98 yX6_isFile wsX6_isFile) := goodIn_app (goodIn_of _ (by decide +kernel)) ggX6_setFile_X6_isFile
set_option maxRecDepth 20000 in
theorem ggX6_setFile_X6_holds : GoodIn wsX6_setFile wsX6_holds := goodIn_r _ [16, 17, 18, 19, 20, 21, 22, 23, 24, 25, 26, 27, 28, 29, 30, 31, 32, 33, 34, 35, 36, 37, 38, 39, 40, 41, 42, 43, 44, 45, 46, 47, 48, 49, 50, 51] (by decide +kernel) (by decide +kernel)
set_option maxRecDepth 20000 in
theorem gX6_setFile_X6_holds : GoodIn wsX6_setFile (wsV RX6 94 RX6 yX6_holds wsX6_holds) := goodIn_app (goodIn_of _ (by decide +kernel)) ggX6_setFile_X6_holds
theorem dX6_setFile_0 : decode cX6_setFile 0 = .ok (.iload_n 2, 1) := by decide +kernel
theorem dX6_setFile_1 : decode cX6_setFile 1 = .ok (.sipush 200, 3) := by decide +kernel
theorem dX6_setFile_4 : decode cX6_setFile 4 = .ok (.sipush 5000, 3) := by decide +kernel
theorem dX6_setFile_7 : decode cX6_setFile 7 = .ok (.invokestatic 90, 3) := by decide +kernel
theorem dX6_setFile_10 : decode cX6_setFile 10 = .ok (.ifCond .eq 28, 3) := by decide +kernel
theorem dX6_setFile_13 : decode cX6_setFile 13 = .ok (.iload_n 3, 1) := by decide +kernel
theorem dX6_setFile_14 : decode cX6_setFile 14 = .ok (.iconst 0, 1) := by decide +kernel
theorem dX6_setFile_15 : decode cX6_setFile 15 = .ok (.sipush 1000, 3) := by decide +kernel
theorem dX6_setFile_18 : decode cX6_setFile 18 = .ok (.invokestatic 90, 3) := by decide +kernel
theorem dX6_setFile_21 : decode cX6_setFile 21 = .ok (.ifCond .eq 17, 3) := by decide +kernel
theorem dX6_setFile_24 : decode cX6_setFile 24 = .ok (.iload 4, 2) := by decide +kernel
theorem dX6_setFile_26 : decode cX6_setFile 26 = .ok (.iconst 0, 1) := by decide +kernel
theorem dX6_setFile_27 : decode cX6_setFile 27 = .ok (.iconst 5, 1) := by decide +kernel
theorem dX6_setFile_28 : decode cX6_setFile 28 = .ok (.invokestatic 90, 3) := by decide +kernel
theorem dX6_setFile_31 : decode cX6_setFile 31 = .ok (.ifCond .eq 7, 3) := by decide +kernel
theorem dX6_setFile_34 : decode cX6_setFile 34 = .ok (.iconst 1, 1) := by decide +kernel
theorem dX6_setFile_35 : decode cX6_setFile 35 = .ok (.goto 4, 3) := by decide +kernel
theorem dX6_setFile_38 : decode cX6_setFile 38 = .ok (.iconst 0, 1) := by decide +kernel
theorem dX6_setFile_39 : decode cX6_setFile 39 = .ok (.istore 5, 2) := by decide +kernel
theorem dX6_setFile_41 : decode cX6_setFile 41 = .ok (.aload_n 0, 1) := by decide +kernel
theorem dX6_setFile_42 : decode cX6_setFile 42 = .ok (.iload_n 1, 1) := by decide +kernel
theorem dX6_setFile_43 : decode cX6_setFile 43 = .ok (.invokestatic 98, 3) := by decide +kernel
theorem dX6_setFile_46 : decode cX6_setFile 46 = .ok (.ifCond .ne 7, 3) := by decide +kernel
theorem dX6_setFile_49 : decode cX6_setFile 49 = .ok (.iconst 1, 1) := by decide +kernel
theorem dX6_setFile_50 : decode cX6_setFile 50 = .ok (.goto 13, 3) := by decide +kernel
theorem dX6_setFile_53 : decode cX6_setFile 53 = .ok (.iload 5, 2) := by decide +kernel
theorem dX6_setFile_55 : decode cX6_setFile 55 = .ok (.ifCond .eq 7, 3) := by decide +kernel
theorem dX6_setFile_58 : decode cX6_setFile 58 = .ok (.iconst 0, 1) := by decide +kernel
theorem dX6_setFile_59 : decode cX6_setFile 59 = .ok (.goto 4, 3) := by decide +kernel
theorem dX6_setFile_62 : decode cX6_setFile 62 = .ok (.iconst 2, 1) := by decide +kernel
theorem dX6_setFile_63 : decode cX6_setFile 63 = .ok (.invokevirtual 94, 3) := by decide +kernel
theorem dX6_setFile_66 : decode cX6_setFile 66 = .ok (.ifCond .ne 5, 3) := by decide +kernel
theorem dX6_setFile_69 : decode cX6_setFile 69 = .ok (.iconst 0, 1) := by decide +kernel
theorem dX6_setFile_70 : decode cX6_setFile 70 = .ok (.ireturn, 1) := by decide +kernel
theorem dX6_setFile_71 : decode cX6_setFile 71 = .ok (.aload_n 0, 1) := by decide +kernel
theorem dX6_setFile_72 : decode cX6_setFile 72 = .ok (.getfield 51, 3) := by decide +kernel
theorem dX6_setFile_75 : decode cX6_setFile 75 = .ok (.iload_n 1, 1) := by decide +kernel
theorem dX6_setFile_76 : decode cX6_setFile 76 = .ok (.iload_n 2, 1) := by decide +kernel
theorem dX6_setFile_77 : decode cX6_setFile 77 = .ok (.iastore, 1) := by decide +kernel
theorem dX6_setFile_78 : decode cX6_setFile 78 = .ok (.aload_n 0, 1) := by decide +kernel
theorem dX6_setFile_79 : decode cX6_setFile 79 = .ok (.getfield 54, 3) := by decide +kernel
theorem dX6_setFile_82 : decode cX6_setFile 82 = .ok (.iload_n 1, 1) := by decide +kernel
theorem dX6_setFile_83 : decode cX6_setFile 83 = .ok (.iload_n 3, 1) := by decide +kernel
theorem dX6_setFile_84 : decode cX6_setFile 84 = .ok (.iastore, 1) := by decide +kernel
theorem dX6_setFile_85 : decode cX6_setFile 85 = .ok (.aload_n 0, 1) := by decide +kernel
theorem dX6_setFile_86 : decode cX6_setFile 86 = .ok (.getfield 57, 3) := by decide +kernel
theorem dX6_setFile_89 : decode cX6_setFile 89 = .ok (.iload_n 1, 1) := by decide +kernel
theorem dX6_setFile_90 : decode cX6_setFile 90 = .ok (.iload 4, 2) := by decide +kernel
theorem dX6_setFile_92 : decode cX6_setFile 92 = .ok (.iastore, 1) := by decide +kernel
theorem dX6_setFile_93 : decode cX6_setFile 93 = .ok (.aload_n 0, 1) := by decide +kernel
theorem dX6_setFile_94 : decode cX6_setFile 94 = .ok (.getfield 66, 3) := by decide +kernel
theorem dX6_setFile_97 : decode cX6_setFile 97 = .ok (.iload_n 1, 1) := by decide +kernel
theorem dX6_setFile_98 : decode cX6_setFile 98 = .ok (.aload_n 0, 1) := by decide +kernel
theorem dX6_setFile_99 : decode cX6_setFile 99 = .ok (.getfield 66, 3) := by decide +kernel
theorem dX6_setFile_102 : decode cX6_setFile 102 = .ok (.iload_n 1, 1) := by decide +kernel
theorem dX6_setFile_103 : decode cX6_setFile 103 = .ok (.iaload, 1) := by decide +kernel
theorem dX6_setFile_104 : decode cX6_setFile 104 = .ok (.iload 4, 2) := by decide +kernel
theorem dX6_setFile_106 : decode cX6_setFile 106 = .ok (.if_icmp .le 8, 3) := by decide +kernel
theorem dX6_setFile_109 : decode cX6_setFile 109 = .ok (.iload 4, 2) := by decide +kernel
theorem dX6_setFile_111 : decode cX6_setFile 111 = .ok (.goto 9, 3) := by decide +kernel
theorem dX6_setFile_114 : decode cX6_setFile 114 = .ok (.aload_n 0, 1) := by decide +kernel
theorem dX6_setFile_115 : decode cX6_setFile 115 = .ok (.getfield 66, 3) := by decide +kernel
theorem dX6_setFile_118 : decode cX6_setFile 118 = .ok (.iload_n 1, 1) := by decide +kernel
theorem dX6_setFile_119 : decode cX6_setFile 119 = .ok (.iaload, 1) := by decide +kernel
theorem dX6_setFile_120 : decode cX6_setFile 120 = .ok (.iastore, 1) := by decide +kernel
theorem dX6_setFile_121 : decode cX6_setFile 121 = .ok (.aload_n 0, 1) := by decide +kernel
theorem dX6_setFile_122 : decode cX6_setFile 122 = .ok (.getfield 60, 3) := by decide +kernel
theorem dX6_setFile_125 : decode cX6_setFile 125 = .ok (.iload_n 1, 1) := by decide +kernel
theorem dX6_setFile_126 : decode cX6_setFile 126 = .ok (.iaload, 1) := by decide +kernel
theorem dX6_setFile_127 : decode cX6_setFile 127 = .ok (.ireturn, 1) := by decide +kernel
theorem dX6_linesOf_0 : decode cX6_linesOf 0 = .ok (.aload_n 0, 1) := by decide +kernel
theorem dX6_linesOf_1 : decode cX6_linesOf 1 = .ok (.getfield 63, 3) := by decide +kernel
theorem dX6_linesOf_4 : decode cX6_linesOf 4 = .ok (.iload_n 1, 1) := by decide +kernel
theorem dX6_linesOf_5 : decode cX6_linesOf 5 = .ok (.iaload, 1) := by decide +kernel
theorem dX6_linesOf_6 : decode cX6_linesOf 6 = .ok (.aload_n 0, 1) := by decide +kernel
theorem dX6_linesOf_7 : decode cX6_linesOf 7 = .ok (.getfield 69, 3) := by decide +kernel
theorem dX6_linesOf_10 : decode cX6_linesOf 10 = .ok (.bipush 7, 2) := by decide +kernel
theorem dX6_linesOf_12 : decode cX6_linesOf 12 = .ok (.iload_n 1, 1) := by decide +kernel
theorem dX6_linesOf_13 : decode cX6_linesOf 13 = .ok (.imul, 1) := by decide +kernel
theorem dX6_linesOf_14 : decode cX6_linesOf 14 = .ok (.iaload, 1) := by decide +kernel
theorem dX6_linesOf_15 : decode cX6_linesOf 15 = .ok (.isub, 1) := by decide +kernel
theorem dX6_linesOf_16 : decode cX6_linesOf 16 = .ok (.ireturn, 1) := by decide +kernel
theorem dX6_rotates_0 : decode cX6_rotates 0 = .ok (.bipush 7, 2) := by decide +kernel
theorem dX6_rotates_2 : decode cX6_rotates 2 = .ok (.iload_n 1, 1) := by decide +kernel
theorem dX6_rotates_3 : decode cX6_rotates 3 = .ok (.imul, 1) := by decide +kernel
theorem dX6_rotates_4 : decode cX6_rotates 4 = .ok (.istore_n 2, 1) := by decide +kernel
theorem dX6_rotates_5 : decode cX6_rotates 5 = .ok (.iload_n 2, 1) := by decide +kernel
theorem dX6_rotates_6 : decode cX6_rotates 6 = .ok (.bipush 7, 2) := by decide +kernel
theorem dX6_rotates_8 : decode cX6_rotates 8 = .ok (.iadd, 1) := by decide +kernel
theorem dX6_rotates_9 : decode cX6_rotates 9 = .ok (.iconst 1, 1) := by decide +kernel
theorem dX6_rotates_10 : decode cX6_rotates 10 = .ok (.isub, 1) := by decide +kernel
theorem dX6_rotates_11 : decode cX6_rotates 11 = .ok (.istore_n 3, 1) := by decide +kernel
theorem dX6_rotates_12 : decode cX6_rotates 12 = .ok (.iload_n 3, 1) := by decide +kernel
theorem dX6_rotates_13 : decode cX6_rotates 13 = .ok (.iload_n 2, 1) := by decide +kernel
theorem dX6_rotates_14 : decode cX6_rotates 14 = .ok (.if_icmp .le 23, 3) := by decide +kernel
theorem dX6_rotates_17 : decode cX6_rotates 17 = .ok (.aload_n 0, 1) := by decide +kernel
theorem dX6_rotates_18 : decode cX6_rotates 18 = .ok (.getfield 69, 3) := by decide +kernel
theorem dX6_rotates_21 : decode cX6_rotates 21 = .ok (.iload_n 3, 1) := by decide +kernel
theorem dX6_rotates_22 : decode cX6_rotates 22 = .ok (.aload_n 0, 1) := by decide +kernel
theorem dX6_rotates_23 : decode cX6_rotates 23 = .ok (.getfield 69, 3) := by decide +kernel
theorem dX6_rotates_26 : decode cX6_rotates 26 = .ok (.iload_n 3, 1) := by decide +kernel
theorem dX6_rotates_27 : decode cX6_rotates 27 = .ok (.iconst 1, 1) := by decide +kernel
theorem dX6_rotates_28 : decode cX6_rotates 28 = .ok (.isub, 1) := by decide +kernel
theorem dX6_rotates_29 : decode cX6_rotates 29 = .ok (.iaload, 1) := by decide +kernel
theorem dX6_rotates_30 : decode cX6_rotates 30 = .ok (.iastore, 1) := by decide +kernel
theorem dX6_rotates_31 : decode cX6_rotates 31 = .ok (.iinc 3 (-1), 3) := by decide +kernel
theorem dX6_rotates_34 : decode cX6_rotates 34 = .ok (.goto (-22), 3) := by decide +kernel
theorem dX6_rotates_37 : decode cX6_rotates 37 = .ok (.aload_n 0, 1) := by decide +kernel
theorem dX6_rotates_38 : decode cX6_rotates 38 = .ok (.getfield 69, 3) := by decide +kernel
theorem dX6_rotates_41 : decode cX6_rotates 41 = .ok (.iload_n 2, 1) := by decide +kernel
theorem dX6_rotates_42 : decode cX6_rotates 42 = .ok (.aload_n 0, 1) := by decide +kernel
theorem dX6_rotates_43 : decode cX6_rotates 43 = .ok (.getfield 63, 3) := by decide +kernel
theorem dX6_rotates_46 : decode cX6_rotates 46 = .ok (.iload_n 1, 1) := by decide +kernel
theorem dX6_rotates_47 : decode cX6_rotates 47 = .ok (.iaload, 1) := by decide +kernel
theorem dX6_rotates_48 : decode cX6_rotates 48 = .ok (.iastore, 1) := by decide +kernel
theorem dX6_rotates_49 : decode cX6_rotates 49 = .ok (.aload_n 0, 1) := by decide +kernel
theorem dX6_rotates_50 : decode cX6_rotates 50 = .ok (.getfield 66, 3) := by decide +kernel
theorem dX6_rotates_53 : decode cX6_rotates 53 = .ok (.iload_n 1, 1) := by decide +kernel
theorem dX6_rotates_54 : decode cX6_rotates 54 = .ok (.dup2, 1) := by decide +kernel
theorem dX6_rotates_55 : decode cX6_rotates 55 = .ok (.iaload, 1) := by decide +kernel
theorem dX6_rotates_56 : decode cX6_rotates 56 = .ok (.aload_n 0, 1) := by decide +kernel
theorem dX6_rotates_57 : decode cX6_rotates 57 = .ok (.getfield 66, 3) := by decide +kernel
theorem dX6_rotates_60 : decode cX6_rotates 60 = .ok (.iload_n 1, 1) := by decide +kernel
theorem dX6_rotates_61 : decode cX6_rotates 61 = .ok (.iaload, 1) := by decide +kernel
theorem dX6_rotates_62 : decode cX6_rotates 62 = .ok (.aload_n 0, 1) := by decide +kernel
theorem dX6_rotates_63 : decode cX6_rotates 63 = .ok (.getfield 57, 3) := by decide +kernel
theorem dX6_rotates_66 : decode cX6_rotates 66 = .ok (.iload_n 1, 1) := by decide +kernel
theorem dX6_rotates_67 : decode cX6_rotates 67 = .ok (.iaload, 1) := by decide +kernel
theorem dX6_rotates_68 : decode cX6_rotates 68 = .ok (.if_icmp .ge 7, 3) := by decide +kernel
theorem dX6_rotates_71 : decode cX6_rotates 71 = .ok (.iconst 1, 1) := by decide +kernel
theorem dX6_rotates_72 : decode cX6_rotates 72 = .ok (.goto 4, 3) := by decide +kernel
theorem dX6_rotates_75 : decode cX6_rotates 75 = .ok (.iconst 0, 1) := by decide +kernel
theorem dX6_rotates_76 : decode cX6_rotates 76 = .ok (.iadd, 1) := by decide +kernel
theorem dX6_rotates_77 : decode cX6_rotates 77 = .ok (.iastore, 1) := by decide +kernel
theorem dX6_rotates_78 : decode cX6_rotates 78 = .ok (.aload_n 0, 1) := by decide +kernel
theorem dX6_rotates_79 : decode cX6_rotates 79 = .ok (.getfield 60, 3) := by decide +kernel
theorem dX6_rotates_82 : decode cX6_rotates 82 = .ok (.iload_n 1, 1) := by decide +kernel
theorem dX6_rotates_83 : decode cX6_rotates 83 = .ok (.iconst 0, 1) := by decide +kernel
theorem dX6_rotates_84 : decode cX6_rotates 84 = .ok (.iastore, 1) := by decide +kernel
theorem dX6_rotates_85 : decode cX6_rotates 85 = .ok (.aload_n 0, 1) := by decide +kernel
theorem dX6_rotates_86 : decode cX6_rotates 86 = .ok (.dup, 1) := by decide +kernel
theorem dX6_rotates_87 : decode cX6_rotates 87 = .ok (.getfield 101, 3) := by decide +kernel
theorem dX6_rotates_90 : decode cX6_rotates 90 = .ok (.iconst 1, 1) := by decide +kernel
theorem dX6_rotates_91 : decode cX6_rotates 91 = .ok (.iadd, 1) := by decide +kernel
theorem dX6_rotates_92 : decode cX6_rotates 92 = .ok (.putfield 101, 3) := by decide +kernel
theorem dX6_rotates_95 : decode cX6_rotates 95 = .ok (.return_, 1) := by decide +kernel
set_option maxRecDepth 20000 in
theorem ggX6_comesTo_X6_linesOf : GoodIn wsX6_comesTo wsX6_linesOf := goodIn_r _ [11, 4, 12, 20, 21, 22, 23, 24, 25, 26, 27, 28, 29, 30, 31, 32, 33, 34, 35, 36, 37, 38, 39, 40, 41, 42, 43, 44, 45, 46, 47, 48, 49, 50, 51, 52, 53] (by decide +kernel) (by decide +kernel)
set_option maxRecDepth 20000 in
theorem gX6_comesTo_X6_linesOf : GoodIn wsX6_comesTo (wsV RX6 104 RX6 yX6_linesOf wsX6_linesOf) := goodIn_app (goodIn_of _ (by decide +kernel)) ggX6_comesTo_X6_linesOf
set_option maxRecDepth 20000 in
theorem ggX6_comesTo_X6_rotates : GoodIn wsX6_comesTo wsX6_rotates := goodIn_r _ [16, 12, 4, 17, 18, 1, 19, 20, 21, 22, 23, 24, 25, 26, 27, 28, 29, 30, 31, 32, 33, 34, 35, 36, 37, 38, 39, 40, 41, 42, 43, 44, 45, 46, 47, 48, 49, 50, 51, 52, 53] (by decide +kernel) (by decide +kernel)
set_option maxRecDepth 20000 in
theorem gX6_comesTo_X6_rotates : GoodIn wsX6_comesTo (wsV RX6 108 RX6 yX6_rotates wsX6_rotates) := goodIn_app (goodIn_of _ (by decide +kernel)) ggX6_comesTo_X6_rotates
theorem dX6_comesTo_0 : decode cX6_comesTo 0 = .ok (.aload_n 0, 1) := by decide +kernel
theorem dX6_comesTo_1 : decode cX6_comesTo 1 = .ok (.iload_n 1, 1) := by decide +kernel
theorem dX6_comesTo_2 : decode cX6_comesTo 2 = .ok (.invokevirtual 104, 3) := by decide +kernel
theorem dX6_comesTo_5 : decode cX6_comesTo 5 = .ok (.ifCond .le 25, 3) := by decide +kernel
theorem dX6_comesTo_8 : decode cX6_comesTo 8 = .ok (.aload_n 0, 1) := by decide +kernel
theorem dX6_comesTo_9 : decode cX6_comesTo 9 = .ok (.getfield 60, 3) := by decide +kernel
theorem dX6_comesTo_12 : decode cX6_comesTo 12 = .ok (.iload_n 1, 1) := by decide +kernel
theorem dX6_comesTo_13 : decode cX6_comesTo 13 = .ok (.iaload, 1) := by decide +kernel
theorem dX6_comesTo_14 : decode cX6_comesTo 14 = .ok (.iload_n 3, 1) := by decide +kernel
theorem dX6_comesTo_15 : decode cX6_comesTo 15 = .ok (.iadd, 1) := by decide +kernel
theorem dX6_comesTo_16 : decode cX6_comesTo 16 = .ok (.aload_n 0, 1) := by decide +kernel
theorem dX6_comesTo_17 : decode cX6_comesTo 17 = .ok (.getfield 51, 3) := by decide +kernel
theorem dX6_comesTo_20 : decode cX6_comesTo 20 = .ok (.iload_n 1, 1) := by decide +kernel
theorem dX6_comesTo_21 : decode cX6_comesTo 21 = .ok (.iaload, 1) := by decide +kernel
theorem dX6_comesTo_22 : decode cX6_comesTo 22 = .ok (.if_icmp .le 8, 3) := by decide +kernel
theorem dX6_comesTo_25 : decode cX6_comesTo 25 = .ok (.aload_n 0, 1) := by decide +kernel
theorem dX6_comesTo_26 : decode cX6_comesTo 26 = .ok (.iload_n 1, 1) := by decide +kernel
theorem dX6_comesTo_27 : decode cX6_comesTo 27 = .ok (.invokevirtual 108, 3) := by decide +kernel
theorem dX6_comesTo_30 : decode cX6_comesTo 30 = .ok (.aload_n 0, 1) := by decide +kernel
theorem dX6_comesTo_31 : decode cX6_comesTo 31 = .ok (.getfield 72, 3) := by decide +kernel
theorem dX6_comesTo_34 : decode cX6_comesTo 34 = .ok (.sipush 400, 3) := by decide +kernel
theorem dX6_comesTo_37 : decode cX6_comesTo 37 = .ok (.iload_n 1, 1) := by decide +kernel
theorem dX6_comesTo_38 : decode cX6_comesTo 38 = .ok (.imul, 1) := by decide +kernel
theorem dX6_comesTo_39 : decode cX6_comesTo 39 = .ok (.aload_n 0, 1) := by decide +kernel
theorem dX6_comesTo_40 : decode cX6_comesTo 40 = .ok (.getfield 63, 3) := by decide +kernel
theorem dX6_comesTo_43 : decode cX6_comesTo 43 = .ok (.iload_n 1, 1) := by decide +kernel
theorem dX6_comesTo_44 : decode cX6_comesTo 44 = .ok (.iaload, 1) := by decide +kernel
theorem dX6_comesTo_45 : decode cX6_comesTo 45 = .ok (.iadd, 1) := by decide +kernel
theorem dX6_comesTo_46 : decode cX6_comesTo 46 = .ok (.iload_n 2, 1) := by decide +kernel
theorem dX6_comesTo_47 : decode cX6_comesTo 47 = .ok (.iastore, 1) := by decide +kernel
theorem dX6_comesTo_48 : decode cX6_comesTo 48 = .ok (.aload_n 0, 1) := by decide +kernel
theorem dX6_comesTo_49 : decode cX6_comesTo 49 = .ok (.getfield 75, 3) := by decide +kernel
theorem dX6_comesTo_52 : decode cX6_comesTo 52 = .ok (.sipush 400, 3) := by decide +kernel
theorem dX6_comesTo_55 : decode cX6_comesTo 55 = .ok (.iload_n 1, 1) := by decide +kernel
theorem dX6_comesTo_56 : decode cX6_comesTo 56 = .ok (.imul, 1) := by decide +kernel
theorem dX6_comesTo_57 : decode cX6_comesTo 57 = .ok (.aload_n 0, 1) := by decide +kernel
theorem dX6_comesTo_58 : decode cX6_comesTo 58 = .ok (.getfield 63, 3) := by decide +kernel
theorem dX6_comesTo_61 : decode cX6_comesTo 61 = .ok (.iload_n 1, 1) := by decide +kernel
theorem dX6_comesTo_62 : decode cX6_comesTo 62 = .ok (.iaload, 1) := by decide +kernel
theorem dX6_comesTo_63 : decode cX6_comesTo 63 = .ok (.iadd, 1) := by decide +kernel
theorem dX6_comesTo_64 : decode cX6_comesTo 64 = .ok (.aload_n 0, 1) := by decide +kernel
theorem dX6_comesTo_65 : decode cX6_comesTo 65 = .ok (.getfield 112, 3) := by decide +kernel
theorem dX6_comesTo_68 : decode cX6_comesTo 68 = .ok (.iastore, 1) := by decide +kernel
theorem dX6_comesTo_69 : decode cX6_comesTo 69 = .ok (.aload_n 0, 1) := by decide +kernel
theorem dX6_comesTo_70 : decode cX6_comesTo 70 = .ok (.getfield 63, 3) := by decide +kernel
theorem dX6_comesTo_73 : decode cX6_comesTo 73 = .ok (.iload_n 1, 1) := by decide +kernel
theorem dX6_comesTo_74 : decode cX6_comesTo 74 = .ok (.dup2, 1) := by decide +kernel
theorem dX6_comesTo_75 : decode cX6_comesTo 75 = .ok (.iaload, 1) := by decide +kernel
theorem dX6_comesTo_76 : decode cX6_comesTo 76 = .ok (.iconst 1, 1) := by decide +kernel
theorem dX6_comesTo_77 : decode cX6_comesTo 77 = .ok (.iadd, 1) := by decide +kernel
theorem dX6_comesTo_78 : decode cX6_comesTo 78 = .ok (.iastore, 1) := by decide +kernel
theorem dX6_comesTo_79 : decode cX6_comesTo 79 = .ok (.aload_n 0, 1) := by decide +kernel
theorem dX6_comesTo_80 : decode cX6_comesTo 80 = .ok (.getfield 60, 3) := by decide +kernel
theorem dX6_comesTo_83 : decode cX6_comesTo 83 = .ok (.iload_n 1, 1) := by decide +kernel
theorem dX6_comesTo_84 : decode cX6_comesTo 84 = .ok (.dup2, 1) := by decide +kernel
theorem dX6_comesTo_85 : decode cX6_comesTo 85 = .ok (.iaload, 1) := by decide +kernel
theorem dX6_comesTo_86 : decode cX6_comesTo 86 = .ok (.iload_n 3, 1) := by decide +kernel
theorem dX6_comesTo_87 : decode cX6_comesTo 87 = .ok (.iadd, 1) := by decide +kernel
theorem dX6_comesTo_88 : decode cX6_comesTo 88 = .ok (.iastore, 1) := by decide +kernel
theorem dX6_comesTo_89 : decode cX6_comesTo 89 = .ok (.return_, 1) := by decide +kernel
theorem dX6_forwards_0 : decode cX6_forwards 0 = .ok (.aload_n 0, 1) := by decide +kernel
theorem dX6_forwards_1 : decode cX6_forwards 1 = .ok (.getfield 115, 3) := by decide +kernel
theorem dX6_forwards_4 : decode cX6_forwards 4 = .ok (.aload_n 0, 1) := by decide +kernel
theorem dX6_forwards_5 : decode cX6_forwards 5 = .ok (.getfield 118, 3) := by decide +kernel
theorem dX6_forwards_8 : decode cX6_forwards 8 = .ok (.isub, 1) := by decide +kernel
theorem dX6_forwards_9 : decode cX6_forwards 9 = .ok (.bipush 30, 2) := by decide +kernel
theorem dX6_forwards_11 : decode cX6_forwards 11 = .ok (.if_icmp .lt 16, 3) := by decide +kernel
theorem dX6_forwards_14 : decode cX6_forwards 14 = .ok (.aload_n 0, 1) := by decide +kernel
theorem dX6_forwards_15 : decode cX6_forwards 15 = .ok (.dup, 1) := by decide +kernel
theorem dX6_forwards_16 : decode cX6_forwards 16 = .ok (.getfield 121, 3) := by decide +kernel
theorem dX6_forwards_19 : decode cX6_forwards 19 = .ok (.iconst 1, 1) := by decide +kernel
theorem dX6_forwards_20 : decode cX6_forwards 20 = .ok (.iadd, 1) := by decide +kernel
theorem dX6_forwards_21 : decode cX6_forwards 21 = .ok (.putfield 121, 3) := by decide +kernel
theorem dX6_forwards_24 : decode cX6_forwards 24 = .ok (.goto 23, 3) := by decide +kernel
theorem dX6_forwards_27 : decode cX6_forwards 27 = .ok (.aload_n 0, 1) := by decide +kernel
theorem dX6_forwards_28 : decode cX6_forwards 28 = .ok (.getfield 78, 3) := by decide +kernel
theorem dX6_forwards_31 : decode cX6_forwards 31 = .ok (.aload_n 0, 1) := by decide +kernel
theorem dX6_forwards_32 : decode cX6_forwards 32 = .ok (.getfield 115, 3) := by decide +kernel
theorem dX6_forwards_35 : decode cX6_forwards 35 = .ok (.iload_n 1, 1) := by decide +kernel
theorem dX6_forwards_36 : decode cX6_forwards 36 = .ok (.iastore, 1) := by decide +kernel
theorem dX6_forwards_37 : decode cX6_forwards 37 = .ok (.aload_n 0, 1) := by decide +kernel
theorem dX6_forwards_38 : decode cX6_forwards 38 = .ok (.dup, 1) := by decide +kernel
theorem dX6_forwards_39 : decode cX6_forwards 39 = .ok (.getfield 115, 3) := by decide +kernel
theorem dX6_forwards_42 : decode cX6_forwards 42 = .ok (.iconst 1, 1) := by decide +kernel
theorem dX6_forwards_43 : decode cX6_forwards 43 = .ok (.iadd, 1) := by decide +kernel
theorem dX6_forwards_44 : decode cX6_forwards 44 = .ok (.putfield 115, 3) := by decide +kernel
theorem dX6_forwards_47 : decode cX6_forwards 47 = .ok (.return_, 1) := by decide +kernel
set_option maxRecDepth 20000 in
theorem ggX6_goes_X6_forwards : GoodIn wsX6_goes wsX6_forwards := goodIn_r _ [10, 11, 12, 13, 14, 37, 38, 39, 40, 41, 42, 43, 44, 45, 46, 47, 48, 49, 50, 51, 52, 53, 54, 55, 56, 57, 58, 59, 60, 61, 62, 63, 64, 65, 66, 67, 68, 69, 70] (by decide +kernel) (by decide +kernel)
set_option maxRecDepth 20000 in
theorem gX6_goes_X6_forwards : GoodIn wsX6_goes (wsV RX6 124 RX6 yX6_forwards wsX6_forwards) := goodIn_app (goodIn_of _ (by decide +kernel)) ggX6_goes_X6_forwards
set_option maxRecDepth 20000 in
theorem ggX6_goes_X6_comesTo : GoodIn wsX6_goes wsX6_comesTo := goodIn_r _ [18, 19, 20, 21, 22, 23, 24, 25, 26, 27, 9, 28, 29, 30, 31, 32, 33, 34, 35, 36, 37, 38, 39, 40, 41, 42, 43, 44, 45, 46, 47, 48, 49, 50, 51, 52, 53, 54, 55, 56, 57, 58, 59, 60, 61, 62, 63, 64, 65, 66, 67, 68, 69, 70] (by decide +kernel) (by decide +kernel)
set_option maxRecDepth 20000 in
theorem gX6_goes_X6_comesTo : GoodIn wsX6_goes (wsV RX6 127 RX6 yX6_comesTo wsX6_comesTo) := goodIn_app (goodIn_of _ (by decide +kernel)) ggX6_goes_X6_comesTo
theorem dX6_goes_0 : decode cX6_goes 0 = .ok (.iconst 0, 1) := by decide +kernel
theorem dX6_goes_1 : decode cX6_goes 1 = .ok (.istore 6, 2) := by decide +kernel
theorem dX6_goes_3 : decode cX6_goes 3 = .ok (.iconst 0, 1) := by decide +kernel
theorem dX6_goes_4 : decode cX6_goes 4 = .ok (.istore 7, 2) := by decide +kernel
theorem dX6_goes_6 : decode cX6_goes 6 = .ok (.iload 7, 2) := by decide +kernel
theorem dX6_goes_8 : decode cX6_goes 8 = .ok (.bipush 6, 2) := by decide +kernel
theorem dX6_goes_10 : decode cX6_goes 10 = .ok (.if_icmp .ge 143, 3) := by decide +kernel
theorem dX6_goes_13 : decode cX6_goes 13 = .ok (.aload_n 0, 1) := by decide +kernel
theorem dX6_goes_14 : decode cX6_goes 14 = .ok (.getfield 35, 3) := by decide +kernel
theorem dX6_goes_17 : decode cX6_goes 17 = .ok (.iload 7, 2) := by decide +kernel
theorem dX6_goes_19 : decode cX6_goes 19 = .ok (.baload, 1) := by decide +kernel
theorem dX6_goes_20 : decode cX6_goes 20 = .ok (.ifCond .eq 55, 3) := by decide +kernel
theorem dX6_goes_23 : decode cX6_goes 23 = .ok (.aload_n 0, 1) := by decide +kernel
theorem dX6_goes_24 : decode cX6_goes 24 = .ok (.getfield 39, 3) := by decide +kernel
theorem dX6_goes_27 : decode cX6_goes 27 = .ok (.iload 7, 2) := by decide +kernel
theorem dX6_goes_29 : decode cX6_goes 29 = .ok (.iaload, 1) := by decide +kernel
theorem dX6_goes_30 : decode cX6_goes 30 = .ok (.iload_n 2, 1) := by decide +kernel
theorem dX6_goes_31 : decode cX6_goes 31 = .ok (.ishr, 1) := by decide +kernel
theorem dX6_goes_32 : decode cX6_goes 32 = .ok (.iconst 1, 1) := by decide +kernel
theorem dX6_goes_33 : decode cX6_goes 33 = .ok (.iand, 1) := by decide +kernel
theorem dX6_goes_34 : decode cX6_goes 34 = .ok (.iconst 1, 1) := by decide +kernel
theorem dX6_goes_35 : decode cX6_goes 35 = .ok (.if_icmp .ne 40, 3) := by decide +kernel
theorem dX6_goes_38 : decode cX6_goes 38 = .ok (.iload_n 3, 1) := by decide +kernel
theorem dX6_goes_39 : decode cX6_goes 39 = .ok (.aload_n 0, 1) := by decide +kernel
theorem dX6_goes_40 : decode cX6_goes 40 = .ok (.getfield 42, 3) := by decide +kernel
theorem dX6_goes_43 : decode cX6_goes 43 = .ok (.iload 7, 2) := by decide +kernel
theorem dX6_goes_45 : decode cX6_goes 45 = .ok (.iaload, 1) := by decide +kernel
theorem dX6_goes_46 : decode cX6_goes 46 = .ok (.if_icmp .gt 29, 3) := by decide +kernel
theorem dX6_goes_49 : decode cX6_goes 49 = .ok (.aload_n 0, 1) := by decide +kernel
theorem dX6_goes_50 : decode cX6_goes 50 = .ok (.getfield 45, 3) := by decide +kernel
theorem dX6_goes_53 : decode cX6_goes 53 = .ok (.iload 7, 2) := by decide +kernel
theorem dX6_goes_55 : decode cX6_goes 55 = .ok (.iaload, 1) := by decide +kernel
theorem dX6_goes_56 : decode cX6_goes 56 = .ok (.iconst (-1), 1) := by decide +kernel
theorem dX6_goes_57 : decode cX6_goes 57 = .ok (.if_icmp .eq 14, 3) := by decide +kernel
theorem dX6_goes_60 : decode cX6_goes 60 = .ok (.aload_n 0, 1) := by decide +kernel
theorem dX6_goes_61 : decode cX6_goes 61 = .ok (.getfield 45, 3) := by decide +kernel
theorem dX6_goes_64 : decode cX6_goes 64 = .ok (.iload 7, 2) := by decide +kernel
theorem dX6_goes_66 : decode cX6_goes 66 = .ok (.iaload, 1) := by decide +kernel
theorem dX6_goes_67 : decode cX6_goes 67 = .ok (.iload_n 1, 1) := by decide +kernel
theorem dX6_goes_68 : decode cX6_goes 68 = .ok (.if_icmp .ne 7, 3) := by decide +kernel
theorem dX6_goes_71 : decode cX6_goes 71 = .ok (.iconst 1, 1) := by decide +kernel
theorem dX6_goes_72 : decode cX6_goes 72 = .ok (.goto 4, 3) := by decide +kernel
theorem dX6_goes_75 : decode cX6_goes 75 = .ok (.iconst 0, 1) := by decide +kernel
theorem dX6_goes_76 : decode cX6_goes 76 = .ok (.istore 8, 2) := by decide +kernel
theorem dX6_goes_78 : decode cX6_goes 78 = .ok (.iload 8, 2) := by decide +kernel
theorem dX6_goes_80 : decode cX6_goes 80 = .ok (.ifCond .eq 67, 3) := by decide +kernel
theorem dX6_goes_83 : decode cX6_goes 83 = .ok (.iload 6, 2) := by decide +kernel
theorem dX6_goes_85 : decode cX6_goes 85 = .ok (.aload_n 0, 1) := by decide +kernel
theorem dX6_goes_86 : decode cX6_goes 86 = .ok (.getfield 48, 3) := by decide +kernel
theorem dX6_goes_89 : decode cX6_goes 89 = .ok (.iload 7, 2) := by decide +kernel
theorem dX6_goes_91 : decode cX6_goes 91 = .ok (.iaload, 1) := by decide +kernel
theorem dX6_goes_92 : decode cX6_goes 92 = .ok (.ishr, 1) := by decide +kernel
theorem dX6_goes_93 : decode cX6_goes 93 = .ok (.iconst 1, 1) := by decide +kernel
theorem dX6_goes_94 : decode cX6_goes 94 = .ok (.iand, 1) := by decide +kernel
theorem dX6_goes_95 : decode cX6_goes 95 = .ok (.ifCond .ne 52, 3) := by decide +kernel
theorem dX6_goes_98 : decode cX6_goes 98 = .ok (.iload 6, 2) := by decide +kernel
theorem dX6_goes_100 : decode cX6_goes 100 = .ok (.iconst 1, 1) := by decide +kernel
theorem dX6_goes_101 : decode cX6_goes 101 = .ok (.aload_n 0, 1) := by decide +kernel
theorem dX6_goes_102 : decode cX6_goes 102 = .ok (.getfield 48, 3) := by decide +kernel
theorem dX6_goes_105 : decode cX6_goes 105 = .ok (.iload 7, 2) := by decide +kernel
theorem dX6_goes_107 : decode cX6_goes 107 = .ok (.iaload, 1) := by decide +kernel
theorem dX6_goes_108 : decode cX6_goes 108 = .ok (.ishl, 1) := by decide +kernel
theorem dX6_goes_109 : decode cX6_goes 109 = .ok (.ior, 1) := by decide +kernel
theorem dX6_goes_110 : decode cX6_goes 110 = .ok (.istore 6, 2) := by decide +kernel
theorem dX6_goes_112 : decode cX6_goes 112 = .ok (.aload_n 0, 1) := by decide +kernel
theorem dX6_goes_113 : decode cX6_goes 113 = .ok (.getfield 48, 3) := by decide +kernel
theorem dX6_goes_116 : decode cX6_goes 116 = .ok (.iload 7, 2) := by decide +kernel
theorem dX6_goes_118 : decode cX6_goes 118 = .ok (.iaload, 1) := by decide +kernel
theorem dX6_goes_119 : decode cX6_goes 119 = .ok (.iconst 4, 1) := by decide +kernel
theorem dX6_goes_120 : decode cX6_goes 120 = .ok (.if_icmp .ne 12, 3) := by decide +kernel
theorem dX6_goes_123 : decode cX6_goes 123 = .ok (.aload_n 0, 1) := by decide +kernel
theorem dX6_goes_124 : decode cX6_goes 124 = .ok (.iload 4, 2) := by decide +kernel
theorem dX6_goes_126 : decode cX6_goes 126 = .ok (.invokevirtual 124, 3) := by decide +kernel
theorem dX6_goes_129 : decode cX6_goes 129 = .ok (.goto 18, 3) := by decide +kernel
theorem dX6_goes_132 : decode cX6_goes 132 = .ok (.aload_n 0, 1) := by decide +kernel
theorem dX6_goes_133 : decode cX6_goes 133 = .ok (.aload_n 0, 1) := by decide +kernel
theorem dX6_goes_134 : decode cX6_goes 134 = .ok (.getfield 48, 3) := by decide +kernel
theorem dX6_goes_137 : decode cX6_goes 137 = .ok (.iload 7, 2) := by decide +kernel
theorem dX6_goes_139 : decode cX6_goes 139 = .ok (.iaload, 1) := by decide +kernel
theorem dX6_goes_140 : decode cX6_goes 140 = .ok (.iload 4, 2) := by decide +kernel
theorem dX6_goes_142 : decode cX6_goes 142 = .ok (.iload 5, 2) := by decide +kernel
theorem dX6_goes_144 : decode cX6_goes 144 = .ok (.invokevirtual 127, 3) := by decide +kernel
theorem dX6_goes_147 : decode cX6_goes 147 = .ok (.iinc 7 1, 3) := by decide +kernel
theorem dX6_goes_150 : decode cX6_goes 150 = .ok (.goto (-144), 3) := by decide +kernel
theorem dX6_goes_153 : decode cX6_goes 153 = .ok (.iload 6, 2) := by decide +kernel
theorem dX6_goes_155 : decode cX6_goes 155 = .ok (.ireturn, 1) := by decide +kernel
set_option maxRecDepth 20000 in
theorem ggX6_tellsRepeats_X6_goes : GoodIn wsX6_tellsRepeats wsX6_goes := goodIn_r _ [8, 9, 10, 11, 12, 13, 14, 15, 16, 7, 17, 18, 19, 20, 21, 22, 23, 24, 25, 26, 27, 28, 29, 30, 31, 32, 33, 34, 35, 36, 37, 38, 39, 40, 41, 42, 43, 44, 45, 46, 47, 48, 49, 50, 51, 52, 53, 54, 55, 56, 57, 58, 59, 60, 61, 62, 63, 64, 65, 66, 67, 68, 69, 70, 71, 72, 73, 74, 75, 76, 77] (by decide +kernel) (by decide +kernel)
set_option maxRecDepth 20000 in
theorem gX6_tellsRepeats_X6_goes : GoodIn wsX6_tellsRepeats (wsV RX6 132 RX6 yX6_goes wsX6_goes) := goodIn_app (goodIn_of _ (by decide +kernel)) ggX6_tellsRepeats_X6_goes
theorem dX6_tellsRepeats_0 : decode cX6_tellsRepeats 0 = .ok (.aload_n 0, 1) := by decide +kernel
theorem dX6_tellsRepeats_1 : decode cX6_tellsRepeats 1 = .ok (.getfield 23, 3) := by decide +kernel
theorem dX6_tellsRepeats_4 : decode cX6_tellsRepeats 4 = .ok (.iload_n 1, 1) := by decide +kernel
theorem dX6_tellsRepeats_5 : decode cX6_tellsRepeats 5 = .ok (.iaload, 1) := by decide +kernel
theorem dX6_tellsRepeats_6 : decode cX6_tellsRepeats 6 = .ok (.istore_n 2, 1) := by decide +kernel
theorem dX6_tellsRepeats_7 : decode cX6_tellsRepeats 7 = .ok (.aload_n 0, 1) := by decide +kernel
theorem dX6_tellsRepeats_8 : decode cX6_tellsRepeats 8 = .ok (.getfield 23, 3) := by decide +kernel
theorem dX6_tellsRepeats_11 : decode cX6_tellsRepeats 11 = .ok (.iload_n 1, 1) := by decide +kernel
theorem dX6_tellsRepeats_12 : decode cX6_tellsRepeats 12 = .ok (.iconst 0, 1) := by decide +kernel
theorem dX6_tellsRepeats_13 : decode cX6_tellsRepeats 13 = .ok (.iastore, 1) := by decide +kernel
theorem dX6_tellsRepeats_14 : decode cX6_tellsRepeats 14 = .ok (.aload_n 0, 1) := by decide +kernel
theorem dX6_tellsRepeats_15 : decode cX6_tellsRepeats 15 = .ok (.iload_n 1, 1) := by decide +kernel
theorem dX6_tellsRepeats_16 : decode cX6_tellsRepeats 16 = .ok (.aload_n 0, 1) := by decide +kernel
theorem dX6_tellsRepeats_17 : decode cX6_tellsRepeats 17 = .ok (.getfield 32, 3) := by decide +kernel
theorem dX6_tellsRepeats_20 : decode cX6_tellsRepeats 20 = .ok (.iload_n 1, 1) := by decide +kernel
theorem dX6_tellsRepeats_21 : decode cX6_tellsRepeats 21 = .ok (.iaload, 1) := by decide +kernel
theorem dX6_tellsRepeats_22 : decode cX6_tellsRepeats 22 = .ok (.ldc 131, 2) := by decide +kernel
theorem dX6_tellsRepeats_24 : decode cX6_tellsRepeats 24 = .ok (.idiv, 1) := by decide +kernel
theorem dX6_tellsRepeats_25 : decode cX6_tellsRepeats 25 = .ok (.aload_n 0, 1) := by decide +kernel
theorem dX6_tellsRepeats_26 : decode cX6_tellsRepeats 26 = .ok (.getfield 32, 3) := by decide +kernel
theorem dX6_tellsRepeats_29 : decode cX6_tellsRepeats 29 = .ok (.iload_n 1, 1) := by decide +kernel
theorem dX6_tellsRepeats_30 : decode cX6_tellsRepeats 30 = .ok (.iaload, 1) := by decide +kernel
theorem dX6_tellsRepeats_31 : decode cX6_tellsRepeats 31 = .ok (.sipush 20000, 3) := by decide +kernel
theorem dX6_tellsRepeats_34 : decode cX6_tellsRepeats 34 = .ok (.idiv, 1) := by decide +kernel
theorem dX6_tellsRepeats_35 : decode cX6_tellsRepeats 35 = .ok (.bipush 8, 2) := by decide +kernel
theorem dX6_tellsRepeats_37 : decode cX6_tellsRepeats 37 = .ok (.irem, 1) := by decide +kernel
theorem dX6_tellsRepeats_38 : decode cX6_tellsRepeats 38 = .ok (.sipush 10000, 3) := by decide +kernel
theorem dX6_tellsRepeats_41 : decode cX6_tellsRepeats 41 = .ok (.iload_n 1, 1) := by decide +kernel
theorem dX6_tellsRepeats_42 : decode cX6_tellsRepeats 42 = .ok (.iconst 1, 1) := by decide +kernel
theorem dX6_tellsRepeats_43 : decode cX6_tellsRepeats 43 = .ok (.iadd, 1) := by decide +kernel
theorem dX6_tellsRepeats_44 : decode cX6_tellsRepeats 44 = .ok (.imul, 1) := by decide +kernel
theorem dX6_tellsRepeats_45 : decode cX6_tellsRepeats 45 = .ok (.iload_n 2, 1) := by decide +kernel
theorem dX6_tellsRepeats_46 : decode cX6_tellsRepeats 46 = .ok (.iadd, 1) := by decide +kernel
theorem dX6_tellsRepeats_47 : decode cX6_tellsRepeats 47 = .ok (.bipush 15, 2) := by decide +kernel
theorem dX6_tellsRepeats_49 : decode cX6_tellsRepeats 49 = .ok (.invokevirtual 132, 3) := by decide +kernel
theorem dX6_tellsRepeats_52 : decode cX6_tellsRepeats 52 = .ok (.istore_n 3, 1) := by decide +kernel
theorem dX6_tellsRepeats_53 : decode cX6_tellsRepeats 53 = .ok (.return_, 1) := by decide +kernel
set_option maxRecDepth 20000 in
theorem ggX6_tellsDrops_X6_goes : GoodIn wsX6_tellsDrops wsX6_goes := goodIn_r _ [7, 8, 9, 10, 11, 12, 13, 14, 15, 6, 16, 17, 18, 19, 20, 21, 22, 23, 24, 25, 26, 27, 28, 29, 30, 31, 32, 33, 34, 35, 36, 37, 38, 39, 40, 41, 42, 43, 44, 45, 46, 47, 48, 49, 50, 51, 52, 53, 54, 55, 56, 57, 58, 59, 60, 61, 62, 63, 64, 65, 66, 67, 68, 69, 70, 71, 72, 73, 74, 75, 76] (by decide +kernel) (by decide +kernel)
set_option maxRecDepth 20000 in
theorem gX6_tellsDrops_X6_goes : GoodIn wsX6_tellsDrops (wsV RX6 132 RX6 yX6_goes wsX6_goes) := goodIn_app (goodIn_of _ (by decide +kernel)) ggX6_tellsDrops_X6_goes
theorem dX6_tellsDrops_0 : decode cX6_tellsDrops 0 = .ok (.aload_n 0, 1) := by decide +kernel
theorem dX6_tellsDrops_1 : decode cX6_tellsDrops 1 = .ok (.getfield 29, 3) := by decide +kernel
theorem dX6_tellsDrops_4 : decode cX6_tellsDrops 4 = .ok (.iload_n 1, 1) := by decide +kernel
theorem dX6_tellsDrops_5 : decode cX6_tellsDrops 5 = .ok (.iaload, 1) := by decide +kernel
theorem dX6_tellsDrops_6 : decode cX6_tellsDrops 6 = .ok (.istore_n 2, 1) := by decide +kernel
theorem dX6_tellsDrops_7 : decode cX6_tellsDrops 7 = .ok (.aload_n 0, 1) := by decide +kernel
theorem dX6_tellsDrops_8 : decode cX6_tellsDrops 8 = .ok (.getfield 29, 3) := by decide +kernel
theorem dX6_tellsDrops_11 : decode cX6_tellsDrops 11 = .ok (.iload_n 1, 1) := by decide +kernel
theorem dX6_tellsDrops_12 : decode cX6_tellsDrops 12 = .ok (.iconst 0, 1) := by decide +kernel
theorem dX6_tellsDrops_13 : decode cX6_tellsDrops 13 = .ok (.iastore, 1) := by decide +kernel
theorem dX6_tellsDrops_14 : decode cX6_tellsDrops 14 = .ok (.aload_n 0, 1) := by decide +kernel
theorem dX6_tellsDrops_15 : decode cX6_tellsDrops 15 = .ok (.iload_n 1, 1) := by decide +kernel
theorem dX6_tellsDrops_16 : decode cX6_tellsDrops 16 = .ok (.iconst 5, 1) := by decide +kernel
theorem dX6_tellsDrops_17 : decode cX6_tellsDrops 17 = .ok (.iconst 4, 1) := by decide +kernel
theorem dX6_tellsDrops_18 : decode cX6_tellsDrops 18 = .ok (.ldc 136, 2) := by decide +kernel
theorem dX6_tellsDrops_20 : decode cX6_tellsDrops 20 = .ok (.iload_n 1, 1) := by decide +kernel
theorem dX6_tellsDrops_21 : decode cX6_tellsDrops 21 = .ok (.iconst 1, 1) := by decide +kernel
theorem dX6_tellsDrops_22 : decode cX6_tellsDrops 22 = .ok (.iadd, 1) := by decide +kernel
theorem dX6_tellsDrops_23 : decode cX6_tellsDrops 23 = .ok (.imul, 1) := by decide +kernel
theorem dX6_tellsDrops_24 : decode cX6_tellsDrops 24 = .ok (.iload_n 2, 1) := by decide +kernel
theorem dX6_tellsDrops_25 : decode cX6_tellsDrops 25 = .ok (.iadd, 1) := by decide +kernel
theorem dX6_tellsDrops_26 : decode cX6_tellsDrops 26 = .ok (.bipush 20, 2) := by decide +kernel
theorem dX6_tellsDrops_28 : decode cX6_tellsDrops 28 = .ok (.invokevirtual 132, 3) := by decide +kernel
theorem dX6_tellsDrops_31 : decode cX6_tellsDrops 31 = .ok (.istore_n 3, 1) := by decide +kernel
theorem dX6_tellsDrops_32 : decode cX6_tellsDrops 32 = .ok (.return_, 1) := by decide +kernel
theorem dX6_notes_0 : decode cX6_notes 0 = .ok (.aload_n 0, 1) := by decide +kernel
theorem dX6_notes_1 : decode cX6_notes 1 = .ok (.getfield 81, 3) := by decide +kernel
theorem dX6_notes_4 : decode cX6_notes 4 = .ok (.aload_n 0, 1) := by decide +kernel
theorem dX6_notes_5 : decode cX6_notes 5 = .ok (.getfield 137, 3) := by decide +kernel
theorem dX6_notes_8 : decode cX6_notes 8 = .ok (.iload_n 1, 1) := by decide +kernel
theorem dX6_notes_9 : decode cX6_notes 9 = .ok (.iastore, 1) := by decide +kernel
theorem dX6_notes_10 : decode cX6_notes 10 = .ok (.aload_n 0, 1) := by decide +kernel
theorem dX6_notes_11 : decode cX6_notes 11 = .ok (.getfield 84, 3) := by decide +kernel
theorem dX6_notes_14 : decode cX6_notes 14 = .ok (.aload_n 0, 1) := by decide +kernel
theorem dX6_notes_15 : decode cX6_notes 15 = .ok (.getfield 137, 3) := by decide +kernel
theorem dX6_notes_18 : decode cX6_notes 18 = .ok (.iload_n 2, 1) := by decide +kernel
theorem dX6_notes_19 : decode cX6_notes 19 = .ok (.iastore, 1) := by decide +kernel
theorem dX6_notes_20 : decode cX6_notes 20 = .ok (.aload_n 0, 1) := by decide +kernel
theorem dX6_notes_21 : decode cX6_notes 21 = .ok (.dup, 1) := by decide +kernel
theorem dX6_notes_22 : decode cX6_notes 22 = .ok (.getfield 137, 3) := by decide +kernel
theorem dX6_notes_25 : decode cX6_notes 25 = .ok (.iconst 1, 1) := by decide +kernel
theorem dX6_notes_26 : decode cX6_notes 26 = .ok (.iadd, 1) := by decide +kernel
theorem dX6_notes_27 : decode cX6_notes 27 = .ok (.putfield 137, 3) := by decide +kernel
theorem dX6_notes_30 : decode cX6_notes 30 = .ok (.iload_n 1, 1) := by decide +kernel
theorem dX6_notes_31 : decode cX6_notes 31 = .ok (.ireturn, 1) := by decide +kernel
set_option maxRecDepth 20000 in
theorem ggX6_message_X6_isIn : GoodIn wsX6_message wsX6_isIn := goodIn_r _ [13] (by decide +kernel) (by decide +kernel)
set_option maxRecDepth 20000 in
theorem gX6_message_X6_isIn : GoodIn wsX6_message (va_wsS RX6 90 yX6_isIn wsX6_isIn) := goodIn_app (goodIn_of _ (by decide +kernel)) ggX6_message_X6_isIn
set_option maxRecDepth 20000 in
theorem ggX6_message_X6_holds : GoodIn wsX6_message wsX6_holds := goodIn_r _ [17, 18, 72, 73, 74, 75, 76, 77, 78, 79, 80, 81, 82, 83, 84, 85, 86, 87, 88, 89, 90, 91, 92, 93, 94, 95, 96, 97, 98, 99, 100, 101, 102, 103, 104, 105] (by decide +kernel) (by decide +kernel)
set_option maxRecDepth 20000 in
theorem gX6_message_X6_holds : GoodIn wsX6_message (wsV RX6 94 RX6 yX6_holds wsX6_holds) := goodIn_app (goodIn_of _ (by decide +kernel)) ggX6_message_X6_holds
set_option maxRecDepth 20000 in
theorem ggX6_message_X6_notes : GoodIn wsX6_message wsX6_notes := goodIn_r _ [22, 23, 1, 24, 72, 73, 74, 75, 76, 77, 78, 79, 80, 81, 82, 83, 84, 85, 86, 87, 88, 89, 90, 91, 92, 93, 94, 95, 96, 97, 98, 99, 100, 101, 102, 103, 104, 105] (by decide +kernel) (by decide +kernel)
set_option maxRecDepth 20000 in
theorem gX6_message_X6_notes : GoodIn wsX6_message (wsV RX6 140 RX6 yX6_notes wsX6_notes) := goodIn_app (goodIn_of _ (by decide +kernel)) ggX6_message_X6_notes
set_option maxRecDepth 20000 in
theorem ggX6_message_X6_tellsRepeats : GoodIn wsX6_message wsX6_tellsRepeats := goodIn_r _ [28, 6, 4, 2, 29, 30, 31, 12, 32, 33, 34, 35, 36, 37, 38, 39, 40, 41, 42, 43, 44, 45, 46, 47, 48, 49, 50, 51, 52, 53, 54, 7, 55, 56, 57, 58, 59, 60, 61, 62, 63, 64, 65, 66, 72, 73, 74, 75, 76, 77, 78, 79, 80, 81, 82, 83, 84, 85, 86, 87, 88, 89, 90, 91, 92, 93, 94, 95, 96, 97, 98, 99, 100, 101, 102, 103, 104, 105] (by decide +kernel) (by decide +kernel)
set_option maxRecDepth 20000 in
theorem gX6_message_X6_tellsRepeats : GoodIn wsX6_message (wsV RX6 144 RX6 yX6_tellsRepeats wsX6_tellsRepeats) := goodIn_app (goodIn_of _ (by decide +kernel)) ggX6_message_X6_tellsRepeats
set_option maxRecDepth 20000 in
theorem ggX6_message_X6_tellsDrops : GoodIn wsX6_message wsX6_tellsDrops := goodIn_r _ [70, 9, 71, 29, 30, 31, 12, 32, 33, 34, 35, 36, 37, 38, 39, 40, 41, 42, 43, 44, 45, 46, 47, 48, 49, 50, 51, 52, 53, 54, 7, 55, 56, 57, 58, 59, 60, 61, 62, 63, 64, 65, 66, 72, 73, 74, 75, 76, 77, 78, 79, 80, 81, 82, 83, 84, 85, 86, 87, 88, 89, 90, 91, 92, 93, 94, 95, 96, 97, 98, 99, 100, 101, 102, 103, 104, 105] (by decide +kernel) (by decide +kernel)
set_option maxRecDepth 20000 in
theorem gX6_message_X6_tellsDrops : GoodIn wsX6_message (wsV RX6 147 RX6 yX6_tellsDrops wsX6_tellsDrops) := goodIn_app (goodIn_of _ (by decide +kernel)) ggX6_message_X6_tellsDrops
set_option maxRecDepth 20000 in
theorem ggX6_message_X6_goes : GoodIn wsX6_message wsX6_goes := goodIn_r _ [32, 33, 34, 35, 36, 37, 38, 39, 40, 12, 41, 42, 43, 44, 45, 46, 47, 48, 49, 50, 51, 52, 53, 54, 7, 55, 56, 57, 58, 59, 60, 61, 62, 63, 64, 65, 66, 72, 73, 74, 75, 76, 77, 78, 79, 80, 81, 82, 83, 84, 85, 86, 87, 88, 89, 90, 91, 92, 93, 94, 95, 96, 97, 98, 99, 100, 101, 102, 103, 104, 105] (by decide +kernel) (by decide +kernel)
set_option maxRecDepth 20000 in
theorem gX6_message_X6_goes : GoodIn wsX6_message (wsV RX6 132 RX6 yX6_goes wsX6_goes) := goodIn_app (goodIn_of _ (by decide +kernel)) ggX6_message_X6_goes
theorem dX6_message_0 : decode cX6_message 0 = .ok (.iload_n 1, 1) := by decide +kernel
theorem dX6_message_1 : decode cX6_message 1 = .ok (.iconst 0, 1) := by decide +kernel
theorem dX6_message_2 : decode cX6_message 2 = .ok (.iconst 5, 1) := by decide +kernel
theorem dX6_message_3 : decode cX6_message 3 = .ok (.invokestatic 90, 3) := by decide +kernel
theorem dX6_message_6 : decode cX6_message 6 = .ok (.istore 6, 2) := by decide +kernel
theorem dX6_message_8 : decode cX6_message 8 = .ok (.iload_n 2, 1) := by decide +kernel
theorem dX6_message_9 : decode cX6_message 9 = .ok (.iconst 0, 1) := by decide +kernel
theorem dX6_message_10 : decode cX6_message 10 = .ok (.bipush 7, 2) := by decide +kernel
theorem dX6_message_12 : decode cX6_message 12 = .ok (.invokestatic 90, 3) := by decide +kernel
theorem dX6_message_15 : decode cX6_message 15 = .ok (.ifCond .eq 40, 3) := by decide +kernel
theorem dX6_message_18 : decode cX6_message 18 = .ok (.iload_n 3, 1) := by decide +kernel
theorem dX6_message_19 : decode cX6_message 19 = .ok (.iconst 0, 1) := by decide +kernel
theorem dX6_message_20 : decode cX6_message 20 = .ok (.bipush 7, 2) := by decide +kernel
theorem dX6_message_22 : decode cX6_message 22 = .ok (.invokestatic 90, 3) := by decide +kernel
theorem dX6_message_25 : decode cX6_message 25 = .ok (.ifCond .eq 30, 3) := by decide +kernel
theorem dX6_message_28 : decode cX6_message 28 = .ok (.iload 4, 2) := by decide +kernel
theorem dX6_message_30 : decode cX6_message 30 = .ok (.iconst 0, 1) := by decide +kernel
theorem dX6_message_31 : decode cX6_message 31 = .ok (.bipush 99, 2) := by decide +kernel
theorem dX6_message_33 : decode cX6_message 33 = .ok (.invokestatic 90, 3) := by decide +kernel
theorem dX6_message_36 : decode cX6_message 36 = .ok (.ifCond .eq 19, 3) := by decide +kernel
theorem dX6_message_39 : decode cX6_message 39 = .ok (.iload 5, 2) := by decide +kernel
theorem dX6_message_41 : decode cX6_message 41 = .ok (.iconst 1, 1) := by decide +kernel
theorem dX6_message_42 : decode cX6_message 42 = .ok (.sipush 200, 3) := by decide +kernel
theorem dX6_message_45 : decode cX6_message 45 = .ok (.invokestatic 90, 3) := by decide +kernel
theorem dX6_message_48 : decode cX6_message 48 = .ok (.ifCond .eq 7, 3) := by decide +kernel
theorem dX6_message_51 : decode cX6_message 51 = .ok (.iconst 1, 1) := by decide +kernel
theorem dX6_message_52 : decode cX6_message 52 = .ok (.goto 4, 3) := by decide +kernel
theorem dX6_message_55 : decode cX6_message 55 = .ok (.iconst 0, 1) := by decide +kernel
theorem dX6_message_56 : decode cX6_message 56 = .ok (.istore 7, 2) := by decide +kernel
theorem dX6_message_58 : decode cX6_message 58 = .ok (.aload_n 0, 1) := by decide +kernel
theorem dX6_message_59 : decode cX6_message 59 = .ok (.iload 6, 2) := by decide +kernel
theorem dX6_message_61 : decode cX6_message 61 = .ok (.ifCond .ne 7, 3) := by decide +kernel
theorem dX6_message_64 : decode cX6_message 64 = .ok (.iconst 1, 1) := by decide +kernel
theorem dX6_message_65 : decode cX6_message 65 = .ok (.goto 27, 3) := by decide +kernel
theorem dX6_message_68 : decode cX6_message 68 = .ok (.iload 7, 2) := by decide +kernel
theorem dX6_message_70 : decode cX6_message 70 = .ok (.ifCond .ne 7, 3) := by decide +kernel
theorem dX6_message_73 : decode cX6_message 73 = .ok (.iconst 2, 1) := by decide +kernel
theorem dX6_message_74 : decode cX6_message 74 = .ok (.goto 18, 3) := by decide +kernel
theorem dX6_message_77 : decode cX6_message 77 = .ok (.aload_n 0, 1) := by decide +kernel
theorem dX6_message_78 : decode cX6_message 78 = .ok (.getfield 137, 3) := by decide +kernel
theorem dX6_message_81 : decode cX6_message 81 = .ok (.sipush 400, 3) := by decide +kernel
theorem dX6_message_84 : decode cX6_message 84 = .ok (.if_icmp .ne 7, 3) := by decide +kernel
theorem dX6_message_87 : decode cX6_message 87 = .ok (.iconst 3, 1) := by decide +kernel
theorem dX6_message_88 : decode cX6_message 88 = .ok (.goto 4, 3) := by decide +kernel
theorem dX6_message_91 : decode cX6_message 91 = .ok (.iconst 0, 1) := by decide +kernel
theorem dX6_message_92 : decode cX6_message 92 = .ok (.invokevirtual 94, 3) := by decide +kernel
theorem dX6_message_95 : decode cX6_message 95 = .ok (.ifCond .ne 5, 3) := by decide +kernel
theorem dX6_message_98 : decode cX6_message 98 = .ok (.iconst 0, 1) := by decide +kernel
theorem dX6_message_99 : decode cX6_message 99 = .ok (.ireturn, 1) := by decide +kernel
theorem dX6_message_100 : decode cX6_message 100 = .ok (.ldc 131, 2) := by decide +kernel
theorem dX6_message_102 : decode cX6_message 102 = .ok (.iload_n 2, 1) := by decide +kernel
theorem dX6_message_103 : decode cX6_message 103 = .ok (.imul, 1) := by decide +kernel
theorem dX6_message_104 : decode cX6_message 104 = .ok (.sipush 20000, 3) := by decide +kernel
theorem dX6_message_107 : decode cX6_message 107 = .ok (.iload_n 3, 1) := by decide +kernel
theorem dX6_message_108 : decode cX6_message 108 = .ok (.imul, 1) := by decide +kernel
theorem dX6_message_109 : decode cX6_message 109 = .ok (.iadd, 1) := by decide +kernel
theorem dX6_message_110 : decode cX6_message 110 = .ok (.sipush 200, 3) := by decide +kernel
theorem dX6_message_113 : decode cX6_message 113 = .ok (.iload 4, 2) := by decide +kernel
theorem dX6_message_115 : decode cX6_message 115 = .ok (.imul, 1) := by decide +kernel
theorem dX6_message_116 : decode cX6_message 116 = .ok (.iadd, 1) := by decide +kernel
theorem dX6_message_117 : decode cX6_message 117 = .ok (.iload 5, 2) := by decide +kernel
theorem dX6_message_119 : decode cX6_message 119 = .ok (.iadd, 1) := by decide +kernel
theorem dX6_message_120 : decode cX6_message 120 = .ok (.iconst 1, 1) := by decide +kernel
theorem dX6_message_121 : decode cX6_message 121 = .ok (.isub, 1) := by decide +kernel
theorem dX6_message_122 : decode cX6_message 122 = .ok (.istore 8, 2) := by decide +kernel
theorem dX6_message_124 : decode cX6_message 124 = .ok (.aload_n 0, 1) := by decide +kernel
theorem dX6_message_125 : decode cX6_message 125 = .ok (.getfield 16, 3) := by decide +kernel
theorem dX6_message_128 : decode cX6_message 128 = .ok (.ifCond .le 59, 3) := by decide +kernel
theorem dX6_message_131 : decode cX6_message 131 = .ok (.aload_n 0, 1) := by decide +kernel
theorem dX6_message_132 : decode cX6_message 132 = .ok (.getfield 32, 3) := by decide +kernel
theorem dX6_message_135 : decode cX6_message 135 = .ok (.iload_n 1, 1) := by decide +kernel
theorem dX6_message_136 : decode cX6_message 136 = .ok (.iaload, 1) := by decide +kernel
theorem dX6_message_137 : decode cX6_message 137 = .ok (.iload 8, 2) := by decide +kernel
theorem dX6_message_139 : decode cX6_message 139 = .ok (.if_icmp .ne 48, 3) := by decide +kernel
theorem dX6_message_142 : decode cX6_message 142 = .ok (.aload_n 0, 1) := by decide +kernel
theorem dX6_message_143 : decode cX6_message 143 = .ok (.getfield 26, 3) := by decide +kernel
theorem dX6_message_146 : decode cX6_message 146 = .ok (.iload_n 1, 1) := by decide +kernel
theorem dX6_message_147 : decode cX6_message 147 = .ok (.aload_n 0, 1) := by decide +kernel
theorem dX6_message_148 : decode cX6_message 148 = .ok (.getfield 23, 3) := by decide +kernel
theorem dX6_message_151 : decode cX6_message 151 = .ok (.iload_n 1, 1) := by decide +kernel
theorem dX6_message_152 : decode cX6_message 152 = .ok (.iaload, 1) := by decide +kernel
theorem dX6_message_153 : decode cX6_message 153 = .ok (.ifCond .ne 10, 3) := by decide +kernel
theorem dX6_message_156 : decode cX6_message 156 = .ok (.aload_n 0, 1) := by decide +kernel
theorem dX6_message_157 : decode cX6_message 157 = .ok (.getfield 112, 3) := by decide +kernel
theorem dX6_message_160 : decode cX6_message 160 = .ok (.goto 9, 3) := by decide +kernel
theorem dX6_message_163 : decode cX6_message 163 = .ok (.aload_n 0, 1) := by decide +kernel
theorem dX6_message_164 : decode cX6_message 164 = .ok (.getfield 26, 3) := by decide +kernel
theorem dX6_message_167 : decode cX6_message 167 = .ok (.iload_n 1, 1) := by decide +kernel
theorem dX6_message_168 : decode cX6_message 168 = .ok (.iaload, 1) := by decide +kernel
theorem dX6_message_169 : decode cX6_message 169 = .ok (.iastore, 1) := by decide +kernel
theorem dX6_message_170 : decode cX6_message 170 = .ok (.aload_n 0, 1) := by decide +kernel
theorem dX6_message_171 : decode cX6_message 171 = .ok (.getfield 23, 3) := by decide +kernel
theorem dX6_message_174 : decode cX6_message 174 = .ok (.iload_n 1, 1) := by decide +kernel
theorem dX6_message_175 : decode cX6_message 175 = .ok (.dup2, 1) := by decide +kernel
theorem dX6_message_176 : decode cX6_message 176 = .ok (.iaload, 1) := by decide +kernel
theorem dX6_message_177 : decode cX6_message 177 = .ok (.iconst 1, 1) := by decide +kernel
theorem dX6_message_178 : decode cX6_message 178 = .ok (.iadd, 1) := by decide +kernel
theorem dX6_message_179 : decode cX6_message 179 = .ok (.iastore, 1) := by decide +kernel
theorem dX6_message_180 : decode cX6_message 180 = .ok (.aload_n 0, 1) := by decide +kernel
theorem dX6_message_181 : decode cX6_message 181 = .ok (.iconst 0, 1) := by decide +kernel
theorem dX6_message_182 : decode cX6_message 182 = .ok (.iconst 0, 1) := by decide +kernel
theorem dX6_message_183 : decode cX6_message 183 = .ok (.invokevirtual 140, 3) := by decide +kernel
theorem dX6_message_186 : decode cX6_message 186 = .ok (.ireturn, 1) := by decide +kernel
theorem dX6_message_187 : decode cX6_message 187 = .ok (.aload_n 0, 1) := by decide +kernel
theorem dX6_message_188 : decode cX6_message 188 = .ok (.getfield 23, 3) := by decide +kernel
theorem dX6_message_191 : decode cX6_message 191 = .ok (.iload_n 1, 1) := by decide +kernel
theorem dX6_message_192 : decode cX6_message 192 = .ok (.iaload, 1) := by decide +kernel
theorem dX6_message_193 : decode cX6_message 193 = .ok (.ifCond .le 8, 3) := by decide +kernel
theorem dX6_message_196 : decode cX6_message 196 = .ok (.aload_n 0, 1) := by decide +kernel
theorem dX6_message_197 : decode cX6_message 197 = .ok (.iload_n 1, 1) := by decide +kernel
theorem dX6_message_198 : decode cX6_message 198 = .ok (.invokevirtual 144, 3) := by decide +kernel
theorem dX6_message_201 : decode cX6_message 201 = .ok (.aload_n 0, 1) := by decide +kernel
theorem dX6_message_202 : decode cX6_message 202 = .ok (.getfield 19, 3) := by decide +kernel
theorem dX6_message_205 : decode cX6_message 205 = .ok (.iload_n 1, 1) := by decide +kernel
theorem dX6_message_206 : decode cX6_message 206 = .ok (.iaload, 1) := by decide +kernel
theorem dX6_message_207 : decode cX6_message 207 = .ok (.ifCond .ne 20, 3) := by decide +kernel
theorem dX6_message_210 : decode cX6_message 210 = .ok (.aload_n 0, 1) := by decide +kernel
theorem dX6_message_211 : decode cX6_message 211 = .ok (.getfield 29, 3) := by decide +kernel
theorem dX6_message_214 : decode cX6_message 214 = .ok (.iload_n 1, 1) := by decide +kernel
theorem dX6_message_215 : decode cX6_message 215 = .ok (.dup2, 1) := by decide +kernel
theorem dX6_message_216 : decode cX6_message 216 = .ok (.iaload, 1) := by decide +kernel
theorem dX6_message_217 : decode cX6_message 217 = .ok (.iconst 1, 1) := by decide +kernel
theorem dX6_message_218 : decode cX6_message 218 = .ok (.iadd, 1) := by decide +kernel
theorem dX6_message_219 : decode cX6_message 219 = .ok (.iastore, 1) := by decide +kernel
theorem dX6_message_220 : decode cX6_message 220 = .ok (.aload_n 0, 1) := by decide +kernel
theorem dX6_message_221 : decode cX6_message 221 = .ok (.iconst 1, 1) := by decide +kernel
theorem dX6_message_222 : decode cX6_message 222 = .ok (.iconst 0, 1) := by decide +kernel
theorem dX6_message_223 : decode cX6_message 223 = .ok (.invokevirtual 140, 3) := by decide +kernel
theorem dX6_message_226 : decode cX6_message 226 = .ok (.ireturn, 1) := by decide +kernel
theorem dX6_message_227 : decode cX6_message 227 = .ok (.aload_n 0, 1) := by decide +kernel
theorem dX6_message_228 : decode cX6_message 228 = .ok (.getfield 19, 3) := by decide +kernel
theorem dX6_message_231 : decode cX6_message 231 = .ok (.iload_n 1, 1) := by decide +kernel
theorem dX6_message_232 : decode cX6_message 232 = .ok (.dup2, 1) := by decide +kernel
theorem dX6_message_233 : decode cX6_message 233 = .ok (.iaload, 1) := by decide +kernel
theorem dX6_message_234 : decode cX6_message 234 = .ok (.iconst 1, 1) := by decide +kernel
theorem dX6_message_235 : decode cX6_message 235 = .ok (.isub, 1) := by decide +kernel
theorem dX6_message_236 : decode cX6_message 236 = .ok (.iastore, 1) := by decide +kernel
theorem dX6_message_237 : decode cX6_message 237 = .ok (.aload_n 0, 1) := by decide +kernel
theorem dX6_message_238 : decode cX6_message 238 = .ok (.getfield 29, 3) := by decide +kernel
theorem dX6_message_241 : decode cX6_message 241 = .ok (.iload_n 1, 1) := by decide +kernel
theorem dX6_message_242 : decode cX6_message 242 = .ok (.iaload, 1) := by decide +kernel
theorem dX6_message_243 : decode cX6_message 243 = .ok (.ifCond .le 8, 3) := by decide +kernel
theorem dX6_message_246 : decode cX6_message 246 = .ok (.aload_n 0, 1) := by decide +kernel
theorem dX6_message_247 : decode cX6_message 247 = .ok (.iload_n 1, 1) := by decide +kernel
theorem dX6_message_248 : decode cX6_message 248 = .ok (.invokevirtual 147, 3) := by decide +kernel
theorem dX6_message_251 : decode cX6_message 251 = .ok (.aload_n 0, 1) := by decide +kernel
theorem dX6_message_252 : decode cX6_message 252 = .ok (.getfield 32, 3) := by decide +kernel
theorem dX6_message_255 : decode cX6_message 255 = .ok (.iload_n 1, 1) := by decide +kernel
theorem dX6_message_256 : decode cX6_message 256 = .ok (.iload 8, 2) := by decide +kernel
theorem dX6_message_258 : decode cX6_message 258 = .ok (.iastore, 1) := by decide +kernel
theorem dX6_message_259 : decode cX6_message 259 = .ok (.aload_n 0, 1) := by decide +kernel
theorem dX6_message_260 : decode cX6_message 260 = .ok (.iload_n 1, 1) := by decide +kernel
theorem dX6_message_261 : decode cX6_message 261 = .ok (.iload_n 2, 1) := by decide +kernel
theorem dX6_message_262 : decode cX6_message 262 = .ok (.iload_n 3, 1) := by decide +kernel
theorem dX6_message_263 : decode cX6_message 263 = .ok (.aload_n 0, 1) := by decide +kernel
theorem dX6_message_264 : decode cX6_message 264 = .ok (.getfield 137, 3) := by decide +kernel
theorem dX6_message_267 : decode cX6_message 267 = .ok (.iload 5, 2) := by decide +kernel
theorem dX6_message_269 : decode cX6_message 269 = .ok (.invokevirtual 132, 3) := by decide +kernel
theorem dX6_message_272 : decode cX6_message 272 = .ok (.istore 9, 2) := by decide +kernel
theorem dX6_message_274 : decode cX6_message 274 = .ok (.aload_n 0, 1) := by decide +kernel
theorem dX6_message_275 : decode cX6_message 275 = .ok (.iload 9, 2) := by decide +kernel
theorem dX6_message_277 : decode cX6_message 277 = .ok (.ifCond .ne 7, 3) := by decide +kernel
theorem dX6_message_280 : decode cX6_message 280 = .ok (.iconst 2, 1) := by decide +kernel
theorem dX6_message_281 : decode cX6_message 281 = .ok (.goto 4, 3) := by decide +kernel
theorem dX6_message_284 : decode cX6_message 284 = .ok (.iconst 3, 1) := by decide +kernel
theorem dX6_message_285 : decode cX6_message 285 = .ok (.iload 9, 2) := by decide +kernel
theorem dX6_message_287 : decode cX6_message 287 = .ok (.invokevirtual 140, 3) := by decide +kernel
theorem dX6_message_290 : decode cX6_message 290 = .ok (.ireturn, 1) := by decide +kernel
theorem dX6_due_0 : decode cX6_due 0 = .ok (.iconst (-1), 1) := by decide +kernel
theorem dX6_due_1 : decode cX6_due 1 = .ok (.istore_n 1, 1) := by decide +kernel
theorem dX6_due_2 : decode cX6_due 2 = .ok (.iconst 5, 1) := by decide +kernel
theorem dX6_due_3 : decode cX6_due 3 = .ok (.istore_n 2, 1) := by decide +kernel
theorem dX6_due_4 : decode cX6_due 4 = .ok (.iload_n 2, 1) := by decide +kernel
theorem dX6_due_5 : decode cX6_due 5 = .ok (.ifCond .lt 72, 3) := by decide +kernel
theorem dX6_due_8 : decode cX6_due 8 = .ok (.aload_n 0, 1) := by decide +kernel
theorem dX6_due_9 : decode cX6_due 9 = .ok (.getfield 23, 3) := by decide +kernel
theorem dX6_due_12 : decode cX6_due 12 = .ok (.iload_n 2, 1) := by decide +kernel
theorem dX6_due_13 : decode cX6_due 13 = .ok (.iaload, 1) := by decide +kernel
theorem dX6_due_14 : decode cX6_due 14 = .ok (.ifCond .le 25, 3) := by decide +kernel
theorem dX6_due_17 : decode cX6_due 17 = .ok (.aload_n 0, 1) := by decide +kernel
theorem dX6_due_18 : decode cX6_due 18 = .ok (.getfield 112, 3) := by decide +kernel
theorem dX6_due_21 : decode cX6_due 21 = .ok (.aload_n 0, 1) := by decide +kernel
theorem dX6_due_22 : decode cX6_due 22 = .ok (.getfield 26, 3) := by decide +kernel
theorem dX6_due_25 : decode cX6_due 25 = .ok (.iload_n 2, 1) := by decide +kernel
theorem dX6_due_26 : decode cX6_due 26 = .ok (.iaload, 1) := by decide +kernel
theorem dX6_due_27 : decode cX6_due 27 = .ok (.isub, 1) := by decide +kernel
theorem dX6_due_28 : decode cX6_due 28 = .ok (.aload_n 0, 1) := by decide +kernel
theorem dX6_due_29 : decode cX6_due 29 = .ok (.getfield 16, 3) := by decide +kernel
theorem dX6_due_32 : decode cX6_due 32 = .ok (.if_icmp .lt 7, 3) := by decide +kernel
theorem dX6_due_35 : decode cX6_due 35 = .ok (.iconst 1, 1) := by decide +kernel
theorem dX6_due_36 : decode cX6_due 36 = .ok (.goto 4, 3) := by decide +kernel
theorem dX6_due_39 : decode cX6_due 39 = .ok (.iconst 0, 1) := by decide +kernel
theorem dX6_due_40 : decode cX6_due 40 = .ok (.istore_n 3, 1) := by decide +kernel
theorem dX6_due_41 : decode cX6_due 41 = .ok (.iload_n 3, 1) := by decide +kernel
theorem dX6_due_42 : decode cX6_due 42 = .ok (.ifCond .eq 27, 3) := by decide +kernel
theorem dX6_due_45 : decode cX6_due 45 = .ok (.iload_n 1, 1) := by decide +kernel
theorem dX6_due_46 : decode cX6_due 46 = .ok (.iconst (-1), 1) := by decide +kernel
theorem dX6_due_47 : decode cX6_due 47 = .ok (.if_icmp .eq 18, 3) := by decide +kernel
theorem dX6_due_50 : decode cX6_due 50 = .ok (.aload_n 0, 1) := by decide +kernel
theorem dX6_due_51 : decode cX6_due 51 = .ok (.getfield 26, 3) := by decide +kernel
theorem dX6_due_54 : decode cX6_due 54 = .ok (.iload_n 2, 1) := by decide +kernel
theorem dX6_due_55 : decode cX6_due 55 = .ok (.iaload, 1) := by decide +kernel
theorem dX6_due_56 : decode cX6_due 56 = .ok (.aload_n 0, 1) := by decide +kernel
theorem dX6_due_57 : decode cX6_due 57 = .ok (.getfield 26, 3) := by decide +kernel
theorem dX6_due_60 : decode cX6_due 60 = .ok (.iload_n 1, 1) := by decide +kernel
theorem dX6_due_61 : decode cX6_due 61 = .ok (.iaload, 1) := by decide +kernel
theorem dX6_due_62 : decode cX6_due 62 = .ok (.if_icmp .gt 7, 3) := by decide +kernel
theorem dX6_due_65 : decode cX6_due 65 = .ok (.iload_n 2, 1) := by decide +kernel
theorem dX6_due_66 : decode cX6_due 66 = .ok (.goto 4, 3) := by decide +kernel
theorem dX6_due_69 : decode cX6_due 69 = .ok (.iload_n 1, 1) := by decide +kernel
theorem dX6_due_70 : decode cX6_due 70 = .ok (.istore_n 1, 1) := by decide +kernel
theorem dX6_due_71 : decode cX6_due 71 = .ok (.iinc 2 (-1), 3) := by decide +kernel
theorem dX6_due_74 : decode cX6_due 74 = .ok (.goto (-70), 3) := by decide +kernel
theorem dX6_due_77 : decode cX6_due 77 = .ok (.iload_n 1, 1) := by decide +kernel
theorem dX6_due_78 : decode cX6_due 78 = .ok (.ireturn, 1) := by decide +kernel
set_option maxRecDepth 20000 in
theorem ggX6_passes_X6_due : GoodIn wsX6_passes wsX6_due := goodIn_r _ [12, 13, 1, 14, 15, 58, 59, 60, 61, 62, 63, 64, 65, 66, 67, 68, 69, 70, 71, 72, 73, 74, 75, 76, 77, 78, 79, 80, 81, 82, 83, 84, 85, 86, 87, 88, 89, 90, 91] (by decide +kernel) (by decide +kernel)
set_option maxRecDepth 20000 in
theorem gX6_passes_X6_due : GoodIn wsX6_passes (wsV RX6 150 RX6 yX6_due wsX6_due) := goodIn_app (goodIn_of _ (by decide +kernel)) ggX6_passes_X6_due
set_option maxRecDepth 20000 in
theorem ggX6_passes_X6_tellsRepeats : GoodIn wsX6_passes wsX6_tellsRepeats := goodIn_r _ [19, 13, 20, 21, 22, 23, 24, 11, 25, 26, 27, 28, 29, 30, 31, 32, 33, 34, 35, 36, 37, 38, 39, 40, 41, 42, 43, 44, 45, 46, 6, 1, 47, 48, 49, 50, 7, 51, 52, 53, 54, 55, 56, 57, 58, 59, 60, 61, 62, 63, 64, 65, 66, 67, 68, 69, 70, 71, 72, 73, 74, 75, 76, 77, 78, 79, 80, 81, 82, 83, 84, 85, 86, 87, 88, 89, 90, 91] (by decide +kernel) (by decide +kernel)
set_option maxRecDepth 20000 in
theorem gX6_passes_X6_tellsRepeats : GoodIn wsX6_passes (wsV RX6 144 RX6 yX6_tellsRepeats wsX6_tellsRepeats) := goodIn_app (goodIn_of _ (by decide +kernel)) ggX6_passes_X6_tellsRepeats
set_option maxRecDepth 20000 in
theorem ggX6_passes_X6_linesOf : GoodIn wsX6_passes wsX6_linesOf := goodIn_r _ [50, 46, 7, 58, 59, 60, 61, 62, 63, 64, 65, 66, 67, 68, 69, 70, 71, 72, 73, 74, 75, 76, 77, 78, 79, 80, 81, 82, 83, 84, 85, 86, 87, 88, 89, 90, 91] (by decide +kernel) (by decide +kernel)
set_option maxRecDepth 20000 in
theorem gX6_passes_X6_linesOf : GoodIn wsX6_passes (wsV RX6 104 RX6 yX6_linesOf wsX6_linesOf) := goodIn_app (goodIn_of _ (by decide +kernel)) ggX6_passes_X6_linesOf
set_option maxRecDepth 20000 in
theorem ggX6_passes_X6_rotates : GoodIn wsX6_passes wsX6_rotates := goodIn_r _ [54, 7, 46, 55, 56, 43, 57, 58, 59, 60, 61, 62, 63, 64, 65, 66, 67, 68, 69, 70, 71, 72, 73, 74, 75, 76, 77, 78, 79, 80, 81, 82, 83, 84, 85, 86, 87, 88, 89, 90, 91] (by decide +kernel) (by decide +kernel)
set_option maxRecDepth 20000 in
theorem gX6_passes_X6_rotates : GoodIn wsX6_passes (wsV RX6 108 RX6 yX6_rotates wsX6_rotates) := goodIn_app (goodIn_of _ (by decide +kernel)) ggX6_passes_X6_rotates
theorem dX6_passes_0 : decode cX6_passes 0 = .ok (.aload_n 0, 1) := by decide +kernel
theorem dX6_passes_1 : decode cX6_passes 1 = .ok (.dup, 1) := by decide +kernel
theorem dX6_passes_2 : decode cX6_passes 2 = .ok (.getfield 112, 3) := by decide +kernel
theorem dX6_passes_5 : decode cX6_passes 5 = .ok (.iconst 1, 1) := by decide +kernel
theorem dX6_passes_6 : decode cX6_passes 6 = .ok (.iadd, 1) := by decide +kernel
theorem dX6_passes_7 : decode cX6_passes 7 = .ok (.putfield 112, 3) := by decide +kernel
theorem dX6_passes_10 : decode cX6_passes 10 = .ok (.iconst 0, 1) := by decide +kernel
theorem dX6_passes_11 : decode cX6_passes 11 = .ok (.istore_n 1, 1) := by decide +kernel
theorem dX6_passes_12 : decode cX6_passes 12 = .ok (.iload_n 1, 1) := by decide +kernel
theorem dX6_passes_13 : decode cX6_passes 13 = .ok (.bipush 6, 2) := by decide +kernel
theorem dX6_passes_15 : decode cX6_passes 15 = .ok (.if_icmp .ge 48, 3) := by decide +kernel
theorem dX6_passes_18 : decode cX6_passes 18 = .ok (.aload_n 0, 1) := by decide +kernel
theorem dX6_passes_19 : decode cX6_passes 19 = .ok (.getfield 19, 3) := by decide +kernel
theorem dX6_passes_22 : decode cX6_passes 22 = .ok (.iload_n 1, 1) := by decide +kernel
theorem dX6_passes_23 : decode cX6_passes 23 = .ok (.dup2, 1) := by decide +kernel
theorem dX6_passes_24 : decode cX6_passes 24 = .ok (.iaload, 1) := by decide +kernel
theorem dX6_passes_25 : decode cX6_passes 25 = .ok (.aload_n 0, 1) := by decide +kernel
theorem dX6_passes_26 : decode cX6_passes 26 = .ok (.getfield 112, 3) := by decide +kernel
theorem dX6_passes_29 : decode cX6_passes 29 = .ok (.aload_n 0, 1) := by decide +kernel
theorem dX6_passes_30 : decode cX6_passes 30 = .ok (.getfield 13, 3) := by decide +kernel
theorem dX6_passes_33 : decode cX6_passes 33 = .ok (.irem, 1) := by decide +kernel
theorem dX6_passes_34 : decode cX6_passes 34 = .ok (.ifCond .ne 20, 3) := by decide +kernel
theorem dX6_passes_37 : decode cX6_passes 37 = .ok (.aload_n 0, 1) := by decide +kernel
theorem dX6_passes_38 : decode cX6_passes 38 = .ok (.getfield 19, 3) := by decide +kernel
theorem dX6_passes_41 : decode cX6_passes 41 = .ok (.iload_n 1, 1) := by decide +kernel
theorem dX6_passes_42 : decode cX6_passes 42 = .ok (.iaload, 1) := by decide +kernel
theorem dX6_passes_43 : decode cX6_passes 43 = .ok (.aload_n 0, 1) := by decide +kernel
theorem dX6_passes_44 : decode cX6_passes 44 = .ok (.getfield 7, 3) := by decide +kernel
theorem dX6_passes_47 : decode cX6_passes 47 = .ok (.if_icmp .ge 7, 3) := by decide +kernel
theorem dX6_passes_50 : decode cX6_passes 50 = .ok (.iconst 1, 1) := by decide +kernel
theorem dX6_passes_51 : decode cX6_passes 51 = .ok (.goto 4, 3) := by decide +kernel
theorem dX6_passes_54 : decode cX6_passes 54 = .ok (.iconst 0, 1) := by decide +kernel
theorem dX6_passes_55 : decode cX6_passes 55 = .ok (.iadd, 1) := by decide +kernel
theorem dX6_passes_56 : decode cX6_passes 56 = .ok (.iastore, 1) := by decide +kernel
theorem dX6_passes_57 : decode cX6_passes 57 = .ok (.iinc 1 1, 3) := by decide +kernel
theorem dX6_passes_60 : decode cX6_passes 60 = .ok (.goto (-48), 3) := by decide +kernel
theorem dX6_passes_63 : decode cX6_passes 63 = .ok (.aload_n 0, 1) := by decide +kernel
theorem dX6_passes_64 : decode cX6_passes 64 = .ok (.invokevirtual 150, 3) := by decide +kernel
theorem dX6_passes_67 : decode cX6_passes 67 = .ok (.istore_n 1, 1) := by decide +kernel
theorem dX6_passes_68 : decode cX6_passes 68 = .ok (.iload_n 1, 1) := by decide +kernel
theorem dX6_passes_69 : decode cX6_passes 69 = .ok (.iconst (-1), 1) := by decide +kernel
theorem dX6_passes_70 : decode cX6_passes 70 = .ok (.if_icmp .eq 16, 3) := by decide +kernel
theorem dX6_passes_73 : decode cX6_passes 73 = .ok (.aload_n 0, 1) := by decide +kernel
theorem dX6_passes_74 : decode cX6_passes 74 = .ok (.iload_n 1, 1) := by decide +kernel
theorem dX6_passes_75 : decode cX6_passes 75 = .ok (.invokevirtual 144, 3) := by decide +kernel
theorem dX6_passes_78 : decode cX6_passes 78 = .ok (.aload_n 0, 1) := by decide +kernel
theorem dX6_passes_79 : decode cX6_passes 79 = .ok (.invokevirtual 150, 3) := by decide +kernel
theorem dX6_passes_82 : decode cX6_passes 82 = .ok (.istore_n 1, 1) := by decide +kernel
theorem dX6_passes_83 : decode cX6_passes 83 = .ok (.goto (-15), 3) := by decide +kernel
theorem dX6_passes_86 : decode cX6_passes 86 = .ok (.iconst 0, 1) := by decide +kernel
theorem dX6_passes_87 : decode cX6_passes 87 = .ok (.istore_n 1, 1) := by decide +kernel
theorem dX6_passes_88 : decode cX6_passes 88 = .ok (.iload_n 1, 1) := by decide +kernel
theorem dX6_passes_89 : decode cX6_passes 89 = .ok (.iconst 4, 1) := by decide +kernel
theorem dX6_passes_90 : decode cX6_passes 90 = .ok (.if_icmp .ge 75, 3) := by decide +kernel
theorem dX6_passes_93 : decode cX6_passes 93 = .ok (.aload_n 0, 1) := by decide +kernel
theorem dX6_passes_94 : decode cX6_passes 94 = .ok (.getfield 54, 3) := by decide +kernel
theorem dX6_passes_97 : decode cX6_passes 97 = .ok (.iload_n 1, 1) := by decide +kernel
theorem dX6_passes_98 : decode cX6_passes 98 = .ok (.iaload, 1) := by decide +kernel
theorem dX6_passes_99 : decode cX6_passes 99 = .ok (.ifCond .le 15, 3) := by decide +kernel
theorem dX6_passes_102 : decode cX6_passes 102 = .ok (.aload_n 0, 1) := by decide +kernel
theorem dX6_passes_103 : decode cX6_passes 103 = .ok (.iload_n 1, 1) := by decide +kernel
theorem dX6_passes_104 : decode cX6_passes 104 = .ok (.invokevirtual 104, 3) := by decide +kernel
theorem dX6_passes_107 : decode cX6_passes 107 = .ok (.ifCond .le 7, 3) := by decide +kernel
theorem dX6_passes_110 : decode cX6_passes 110 = .ok (.iconst 1, 1) := by decide +kernel
theorem dX6_passes_111 : decode cX6_passes 111 = .ok (.goto 4, 3) := by decide +kernel
theorem dX6_passes_114 : decode cX6_passes 114 = .ok (.iconst 0, 1) := by decide +kernel
theorem dX6_passes_115 : decode cX6_passes 115 = .ok (.istore_n 2, 1) := by decide +kernel
theorem dX6_passes_116 : decode cX6_passes 116 = .ok (.iload_n 2, 1) := by decide +kernel
theorem dX6_passes_117 : decode cX6_passes 117 = .ok (.ifCond .eq 42, 3) := by decide +kernel
theorem dX6_passes_120 : decode cX6_passes 120 = .ok (.aload_n 0, 1) := by decide +kernel
theorem dX6_passes_121 : decode cX6_passes 121 = .ok (.getfield 112, 3) := by decide +kernel
theorem dX6_passes_124 : decode cX6_passes 124 = .ok (.aload_n 0, 1) := by decide +kernel
theorem dX6_passes_125 : decode cX6_passes 125 = .ok (.getfield 75, 3) := by decide +kernel
theorem dX6_passes_128 : decode cX6_passes 128 = .ok (.sipush 400, 3) := by decide +kernel
theorem dX6_passes_131 : decode cX6_passes 131 = .ok (.iload_n 1, 1) := by decide +kernel
theorem dX6_passes_132 : decode cX6_passes 132 = .ok (.imul, 1) := by decide +kernel
theorem dX6_passes_133 : decode cX6_passes 133 = .ok (.aload_n 0, 1) := by decide +kernel
theorem dX6_passes_134 : decode cX6_passes 134 = .ok (.getfield 69, 3) := by decide +kernel
theorem dX6_passes_137 : decode cX6_passes 137 = .ok (.bipush 7, 2) := by decide +kernel
theorem dX6_passes_139 : decode cX6_passes 139 = .ok (.iload_n 1, 1) := by decide +kernel
theorem dX6_passes_140 : decode cX6_passes 140 = .ok (.imul, 1) := by decide +kernel
theorem dX6_passes_141 : decode cX6_passes 141 = .ok (.iaload, 1) := by decide +kernel
theorem dX6_passes_142 : decode cX6_passes 142 = .ok (.iadd, 1) := by decide +kernel
theorem dX6_passes_143 : decode cX6_passes 143 = .ok (.iaload, 1) := by decide +kernel
theorem dX6_passes_144 : decode cX6_passes 144 = .ok (.isub, 1) := by decide +kernel
theorem dX6_passes_145 : decode cX6_passes 145 = .ok (.aload_n 0, 1) := by decide +kernel
theorem dX6_passes_146 : decode cX6_passes 146 = .ok (.getfield 54, 3) := by decide +kernel
theorem dX6_passes_149 : decode cX6_passes 149 = .ok (.iload_n 1, 1) := by decide +kernel
theorem dX6_passes_150 : decode cX6_passes 150 = .ok (.iaload, 1) := by decide +kernel
theorem dX6_passes_151 : decode cX6_passes 151 = .ok (.if_icmp .lt 8, 3) := by decide +kernel
theorem dX6_passes_154 : decode cX6_passes 154 = .ok (.aload_n 0, 1) := by decide +kernel
theorem dX6_passes_155 : decode cX6_passes 155 = .ok (.iload_n 1, 1) := by decide +kernel
theorem dX6_passes_156 : decode cX6_passes 156 = .ok (.invokevirtual 108, 3) := by decide +kernel
theorem dX6_passes_159 : decode cX6_passes 159 = .ok (.iinc 1 1, 3) := by decide +kernel
theorem dX6_passes_162 : decode cX6_passes 162 = .ok (.goto (-74), 3) := by decide +kernel
theorem dX6_passes_165 : decode cX6_passes 165 = .ok (.return_, 1) := by decide +kernel
set_option maxRecDepth 20000 in
theorem ggX6_pass_X6_isIn : GoodIn wsX6_pass wsX6_isIn := goodIn_r _ [5] (by decide +kernel) (by decide +kernel)
set_option maxRecDepth 20000 in
theorem gX6_pass_X6_isIn : GoodIn wsX6_pass (va_wsS RX6 90 yX6_isIn wsX6_isIn) := goodIn_app (goodIn_of _ (by decide +kernel)) ggX6_pass_X6_isIn
set_option maxRecDepth 20000 in
theorem ggX6_pass_X6_holds : GoodIn wsX6_pass wsX6_holds := goodIn_r _ [9, 10, 70, 71, 72, 73, 74, 75, 76, 77, 78, 79, 80, 81, 82, 83, 84, 85, 86, 87, 88, 89, 90, 91, 92, 93, 94, 95, 96, 97, 98, 99, 100, 101, 102, 103] (by decide +kernel) (by decide +kernel)
set_option maxRecDepth 20000 in
theorem gX6_pass_X6_holds : GoodIn wsX6_pass (wsV RX6 94 RX6 yX6_holds wsX6_holds) := goodIn_app (goodIn_of _ (by decide +kernel)) ggX6_pass_X6_holds
set_option maxRecDepth 20000 in
theorem ggX6_pass_X6_passes : GoodIn wsX6_pass wsX6_passes := goodIn_r _ [14, 15, 16, 17, 18, 19, 20, 21, 22, 23, 24, 4, 25, 26, 27, 28, 29, 30, 31, 32, 33, 34, 35, 36, 37, 38, 39, 40, 41, 42, 43, 44, 45, 46, 47, 48, 49, 50, 51, 52, 53, 54, 55, 56, 57, 58, 59, 60, 61, 62, 63, 64, 65, 66, 67, 68, 69, 1, 70, 71, 72, 73, 74, 75, 76, 77, 78, 79, 80, 81, 82, 83, 84, 85, 86, 87, 88, 89, 90, 91, 92, 93, 94, 95, 96, 97, 98, 99, 100, 101, 102, 103] (by decide +kernel) (by decide +kernel)
set_option maxRecDepth 20000 in
theorem gX6_pass_X6_passes : GoodIn wsX6_pass (wsV RX6 154 RX6 yX6_passes wsX6_passes) := goodIn_app (goodIn_of _ (by decide +kernel)) ggX6_pass_X6_passes
theorem dX6_pass_0 : decode cX6_pass 0 = .ok (.aload_n 0, 1) := by decide +kernel
theorem dX6_pass_1 : decode cX6_pass 1 = .ok (.iload_n 1, 1) := by decide +kernel
theorem dX6_pass_2 : decode cX6_pass 2 = .ok (.iconst 1, 1) := by decide +kernel
theorem dX6_pass_3 : decode cX6_pass 3 = .ok (.bipush 100, 2) := by decide +kernel
theorem dX6_pass_5 : decode cX6_pass 5 = .ok (.invokestatic 90, 3) := by decide +kernel
theorem dX6_pass_8 : decode cX6_pass 8 = .ok (.ifCond .eq 7, 3) := by decide +kernel
theorem dX6_pass_11 : decode cX6_pass 11 = .ok (.iconst 0, 1) := by decide +kernel
theorem dX6_pass_12 : decode cX6_pass 12 = .ok (.goto 4, 3) := by decide +kernel
theorem dX6_pass_15 : decode cX6_pass 15 = .ok (.iconst 1, 1) := by decide +kernel
theorem dX6_pass_16 : decode cX6_pass 16 = .ok (.invokevirtual 94, 3) := by decide +kernel
theorem dX6_pass_19 : decode cX6_pass 19 = .ok (.ifCond .ne 5, 3) := by decide +kernel
theorem dX6_pass_22 : decode cX6_pass 22 = .ok (.iconst 0, 1) := by decide +kernel
theorem dX6_pass_23 : decode cX6_pass 23 = .ok (.ireturn, 1) := by decide +kernel
theorem dX6_pass_24 : decode cX6_pass 24 = .ok (.aload_n 0, 1) := by decide +kernel
theorem dX6_pass_25 : decode cX6_pass 25 = .ok (.iconst 0, 1) := by decide +kernel
theorem dX6_pass_26 : decode cX6_pass 26 = .ok (.putfield 101, 3) := by decide +kernel
theorem dX6_pass_29 : decode cX6_pass 29 = .ok (.iconst 0, 1) := by decide +kernel
theorem dX6_pass_30 : decode cX6_pass 30 = .ok (.istore_n 2, 1) := by decide +kernel
theorem dX6_pass_31 : decode cX6_pass 31 = .ok (.iload_n 2, 1) := by decide +kernel
theorem dX6_pass_32 : decode cX6_pass 32 = .ok (.iload_n 1, 1) := by decide +kernel
theorem dX6_pass_33 : decode cX6_pass 33 = .ok (.if_icmp .ge 13, 3) := by decide +kernel
theorem dX6_pass_36 : decode cX6_pass 36 = .ok (.aload_n 0, 1) := by decide +kernel
theorem dX6_pass_37 : decode cX6_pass 37 = .ok (.invokevirtual 154, 3) := by decide +kernel
theorem dX6_pass_40 : decode cX6_pass 40 = .ok (.iinc 2 1, 3) := by decide +kernel
theorem dX6_pass_43 : decode cX6_pass 43 = .ok (.goto (-12), 3) := by decide +kernel
theorem dX6_pass_46 : decode cX6_pass 46 = .ok (.aload_n 0, 1) := by decide +kernel
theorem dX6_pass_47 : decode cX6_pass 47 = .ok (.getfield 101, 3) := by decide +kernel
theorem dX6_pass_50 : decode cX6_pass 50 = .ok (.ireturn, 1) := by decide +kernel
set_option maxRecDepth 20000 in
theorem ggX6_rotate_X6_isFile : GoodIn wsX6_rotate wsX6_isFile := goodIn_r _ [5, 6, 7, 4, 8] (by decide +kernel) (by decide +kernel)
set_option maxRecDepth 20000 in
theorem gX6_rotate_X6_isFile : GoodIn wsX6_rotate (va_wsS RX6 98 yX6_isFile wsX6_isFile) := goodIn_app (goodIn_of _ (by decide +kernel)) ggX6_rotate_X6_isFile
set_option maxRecDepth 20000 in
theorem ggX6_rotate_X6_linesOf : GoodIn wsX6_rotate wsX6_linesOf := goodIn_r _ [12, 13, 14, 27, 28, 29, 30, 31, 32, 33, 34, 35, 36, 37, 38, 39, 40, 41, 42, 43, 44, 45, 46, 47, 48, 49, 50, 51, 52, 53, 54, 55, 56, 57, 58, 59, 60] (by decide +kernel) (by decide +kernel)
set_option maxRecDepth 20000 in
theorem gX6_rotate_X6_linesOf : GoodIn wsX6_rotate (wsV RX6 104 RX6 yX6_linesOf wsX6_linesOf) := goodIn_app (goodIn_of _ (by decide +kernel)) ggX6_rotate_X6_linesOf
set_option maxRecDepth 20000 in
theorem ggX6_rotate_X6_holds : GoodIn wsX6_rotate wsX6_holds := goodIn_r _ [18, 19, 27, 28, 29, 30, 31, 32, 33, 34, 35, 36, 37, 38, 39, 40, 41, 42, 43, 44, 45, 46, 47, 48, 49, 50, 51, 52, 53, 54, 55, 56, 57, 58, 59, 60] (by decide +kernel) (by decide +kernel)
set_option maxRecDepth 20000 in
theorem gX6_rotate_X6_holds : GoodIn wsX6_rotate (wsV RX6 94 RX6 yX6_holds wsX6_holds) := goodIn_app (goodIn_of _ (by decide +kernel)) ggX6_rotate_X6_holds
set_option maxRecDepth 20000 in
theorem ggX6_rotate_X6_rotates : GoodIn wsX6_rotate wsX6_rotates := goodIn_r _ [23, 14, 13, 1, 24, 25, 26, 27, 28, 29, 30, 31, 32, 33, 34, 35, 36, 37, 38, 39, 40, 41, 42, 43, 44, 45, 46, 47, 48, 49, 50, 51, 52, 53, 54, 55, 56, 57, 58, 59, 60] (by decide +kernel) (by decide +kernel)
set_option maxRecDepth 20000 in
theorem gX6_rotate_X6_rotates : GoodIn wsX6_rotate (wsV RX6 108 RX6 yX6_rotates wsX6_rotates) := goodIn_app (goodIn_of _ (by decide +kernel)) ggX6_rotate_X6_rotates
theorem dX6_rotate_0 : decode cX6_rotate 0 = .ok (.iload_n 1, 1) := by decide +kernel
theorem dX6_rotate_1 : decode cX6_rotate 1 = .ok (.invokestatic 98, 3) := by decide +kernel
theorem dX6_rotate_4 : decode cX6_rotate 4 = .ok (.istore_n 2, 1) := by decide +kernel
theorem dX6_rotate_5 : decode cX6_rotate 5 = .ok (.aload_n 0, 1) := by decide +kernel
theorem dX6_rotate_6 : decode cX6_rotate 6 = .ok (.iload_n 2, 1) := by decide +kernel
theorem dX6_rotate_7 : decode cX6_rotate 7 = .ok (.ifCond .ne 7, 3) := by decide +kernel
theorem dX6_rotate_10 : decode cX6_rotate 10 = .ok (.iconst 1, 1) := by decide +kernel
theorem dX6_rotate_11 : decode cX6_rotate 11 = .ok (.goto 16, 3) := by decide +kernel
theorem dX6_rotate_14 : decode cX6_rotate 14 = .ok (.aload_n 0, 1) := by decide +kernel
theorem dX6_rotate_15 : decode cX6_rotate 15 = .ok (.iload_n 1, 1) := by decide +kernel
theorem dX6_rotate_16 : decode cX6_rotate 16 = .ok (.invokevirtual 104, 3) := by decide +kernel
theorem dX6_rotate_19 : decode cX6_rotate 19 = .ok (.ifCond .ne 7, 3) := by decide +kernel
theorem dX6_rotate_22 : decode cX6_rotate 22 = .ok (.iconst 2, 1) := by decide +kernel
theorem dX6_rotate_23 : decode cX6_rotate 23 = .ok (.goto 4, 3) := by decide +kernel
theorem dX6_rotate_26 : decode cX6_rotate 26 = .ok (.iconst 0, 1) := by decide +kernel
theorem dX6_rotate_27 : decode cX6_rotate 27 = .ok (.invokevirtual 94, 3) := by decide +kernel
theorem dX6_rotate_30 : decode cX6_rotate 30 = .ok (.ifCond .ne 5, 3) := by decide +kernel
theorem dX6_rotate_33 : decode cX6_rotate 33 = .ok (.iconst 0, 1) := by decide +kernel
theorem dX6_rotate_34 : decode cX6_rotate 34 = .ok (.ireturn, 1) := by decide +kernel
theorem dX6_rotate_35 : decode cX6_rotate 35 = .ok (.aload_n 0, 1) := by decide +kernel
theorem dX6_rotate_36 : decode cX6_rotate 36 = .ok (.iload_n 1, 1) := by decide +kernel
theorem dX6_rotate_37 : decode cX6_rotate 37 = .ok (.invokevirtual 108, 3) := by decide +kernel
theorem dX6_rotate_40 : decode cX6_rotate 40 = .ok (.aload_n 0, 1) := by decide +kernel
theorem dX6_rotate_41 : decode cX6_rotate 41 = .ok (.getfield 66, 3) := by decide +kernel
theorem dX6_rotate_44 : decode cX6_rotate 44 = .ok (.iload_n 1, 1) := by decide +kernel
theorem dX6_rotate_45 : decode cX6_rotate 45 = .ok (.iaload, 1) := by decide +kernel
theorem dX6_rotate_46 : decode cX6_rotate 46 = .ok (.ireturn, 1) := by decide +kernel
set_option maxRecDepth 20000 in
theorem ggX6_connect_X6_holds : GoodIn wsX6_connect wsX6_holds := goodIn_r _ [8, 9, 10, 11, 12, 13, 14, 15, 16, 17, 18, 19, 20, 21, 22, 23, 24, 25, 26, 27, 28, 29, 30, 31, 32, 33, 34, 35, 36, 37, 38, 39, 40, 41, 42, 43] (by decide +kernel) (by decide +kernel)
set_option maxRecDepth 20000 in
theorem gX6_connect_X6_holds : GoodIn wsX6_connect (wsV RX6 94 RX6 yX6_holds wsX6_holds) := goodIn_app (goodIn_of _ (by decide +kernel)) ggX6_connect_X6_holds
theorem dX6_connect_0 : decode cX6_connect 0 = .ok (.aload_n 0, 1) := by decide +kernel
theorem dX6_connect_1 : decode cX6_connect 1 = .ok (.aload_n 0, 1) := by decide +kernel
theorem dX6_connect_2 : decode cX6_connect 2 = .ok (.getfield 157, 3) := by decide +kernel
theorem dX6_connect_5 : decode cX6_connect 5 = .ok (.ifCond .eq 7, 3) := by decide +kernel
theorem dX6_connect_8 : decode cX6_connect 8 = .ok (.iconst 1, 1) := by decide +kernel
theorem dX6_connect_9 : decode cX6_connect 9 = .ok (.goto 4, 3) := by decide +kernel
theorem dX6_connect_12 : decode cX6_connect 12 = .ok (.iconst 0, 1) := by decide +kernel
theorem dX6_connect_13 : decode cX6_connect 13 = .ok (.invokevirtual 94, 3) := by decide +kernel
theorem dX6_connect_16 : decode cX6_connect 16 = .ok (.ifCond .ne 5, 3) := by decide +kernel
theorem dX6_connect_19 : decode cX6_connect 19 = .ok (.iconst 0, 1) := by decide +kernel
theorem dX6_connect_20 : decode cX6_connect 20 = .ok (.ireturn, 1) := by decide +kernel
theorem dX6_connect_21 : decode cX6_connect 21 = .ok (.aload_n 0, 1) := by decide +kernel
theorem dX6_connect_22 : decode cX6_connect 22 = .ok (.iconst 1, 1) := by decide +kernel
theorem dX6_connect_23 : decode cX6_connect 23 = .ok (.putfield 157, 3) := by decide +kernel
theorem dX6_connect_26 : decode cX6_connect 26 = .ok (.aload_n 0, 1) := by decide +kernel
theorem dX6_connect_27 : decode cX6_connect 27 = .ok (.getfield 115, 3) := by decide +kernel
theorem dX6_connect_30 : decode cX6_connect 30 = .ok (.aload_n 0, 1) := by decide +kernel
theorem dX6_connect_31 : decode cX6_connect 31 = .ok (.getfield 161, 3) := by decide +kernel
theorem dX6_connect_34 : decode cX6_connect 34 = .ok (.isub, 1) := by decide +kernel
theorem dX6_connect_35 : decode cX6_connect 35 = .ok (.ireturn, 1) := by decide +kernel
set_option maxRecDepth 20000 in
theorem ggX6_disconnect_X6_holds : GoodIn wsX6_disconnect wsX6_holds := goodIn_r _ [8, 9, 10, 11, 12, 13, 14, 15, 16, 17, 18, 19, 20, 21, 22, 23, 24, 25, 26, 27, 28, 29, 30, 31, 32, 33, 34, 35, 36, 37, 38, 39, 40, 41, 42, 43] (by decide +kernel) (by decide +kernel)
set_option maxRecDepth 20000 in
theorem gX6_disconnect_X6_holds : GoodIn wsX6_disconnect (wsV RX6 94 RX6 yX6_holds wsX6_holds) := goodIn_app (goodIn_of _ (by decide +kernel)) ggX6_disconnect_X6_holds
theorem dX6_disconnect_0 : decode cX6_disconnect 0 = .ok (.aload_n 0, 1) := by decide +kernel
theorem dX6_disconnect_1 : decode cX6_disconnect 1 = .ok (.aload_n 0, 1) := by decide +kernel
theorem dX6_disconnect_2 : decode cX6_disconnect 2 = .ok (.getfield 157, 3) := by decide +kernel
theorem dX6_disconnect_5 : decode cX6_disconnect 5 = .ok (.ifCond .eq 7, 3) := by decide +kernel
theorem dX6_disconnect_8 : decode cX6_disconnect 8 = .ok (.iconst 0, 1) := by decide +kernel
theorem dX6_disconnect_9 : decode cX6_disconnect 9 = .ok (.goto 4, 3) := by decide +kernel
theorem dX6_disconnect_12 : decode cX6_disconnect 12 = .ok (.iconst 1, 1) := by decide +kernel
theorem dX6_disconnect_13 : decode cX6_disconnect 13 = .ok (.invokevirtual 94, 3) := by decide +kernel
theorem dX6_disconnect_16 : decode cX6_disconnect 16 = .ok (.ifCond .ne 5, 3) := by decide +kernel
theorem dX6_disconnect_19 : decode cX6_disconnect 19 = .ok (.iconst 0, 1) := by decide +kernel
theorem dX6_disconnect_20 : decode cX6_disconnect 20 = .ok (.ireturn, 1) := by decide +kernel
theorem dX6_disconnect_21 : decode cX6_disconnect 21 = .ok (.aload_n 0, 1) := by decide +kernel
theorem dX6_disconnect_22 : decode cX6_disconnect 22 = .ok (.getfield 161, 3) := by decide +kernel
theorem dX6_disconnect_25 : decode cX6_disconnect 25 = .ok (.aload_n 0, 1) := by decide +kernel
theorem dX6_disconnect_26 : decode cX6_disconnect 26 = .ok (.getfield 118, 3) := by decide +kernel
theorem dX6_disconnect_29 : decode cX6_disconnect 29 = .ok (.isub, 1) := by decide +kernel
theorem dX6_disconnect_30 : decode cX6_disconnect 30 = .ok (.istore_n 1, 1) := by decide +kernel
theorem dX6_disconnect_31 : decode cX6_disconnect 31 = .ok (.aload_n 0, 1) := by decide +kernel
theorem dX6_disconnect_32 : decode cX6_disconnect 32 = .ok (.iconst 0, 1) := by decide +kernel
theorem dX6_disconnect_33 : decode cX6_disconnect 33 = .ok (.putfield 157, 3) := by decide +kernel
theorem dX6_disconnect_36 : decode cX6_disconnect 36 = .ok (.aload_n 0, 1) := by decide +kernel
theorem dX6_disconnect_37 : decode cX6_disconnect 37 = .ok (.aload_n 0, 1) := by decide +kernel
theorem dX6_disconnect_38 : decode cX6_disconnect 38 = .ok (.getfield 118, 3) := by decide +kernel
theorem dX6_disconnect_41 : decode cX6_disconnect 41 = .ok (.putfield 161, 3) := by decide +kernel
theorem dX6_disconnect_44 : decode cX6_disconnect 44 = .ok (.iload_n 1, 1) := by decide +kernel
theorem dX6_disconnect_45 : decode cX6_disconnect 45 = .ok (.ireturn, 1) := by decide +kernel
set_option maxRecDepth 20000 in
theorem ggX6_send_X6_holds : GoodIn wsX6_send wsX6_holds := goodIn_r _ [10, 11, 12, 13, 14, 15, 16, 17, 18, 19, 20, 21, 22, 23, 24, 25, 26, 27, 28, 29, 30, 31, 32, 33, 34, 35, 36, 37, 38, 39, 40, 41, 42, 43, 44, 45] (by decide +kernel) (by decide +kernel)
set_option maxRecDepth 20000 in
theorem gX6_send_X6_holds : GoodIn wsX6_send (wsV RX6 94 RX6 yX6_holds wsX6_holds) := goodIn_app (goodIn_of _ (by decide +kernel)) ggX6_send_X6_holds
theorem dX6_send_0 : decode cX6_send 0 = .ok (.aload_n 0, 1) := by decide +kernel
theorem dX6_send_1 : decode cX6_send 1 = .ok (.aload_n 0, 1) := by decide +kernel
theorem dX6_send_2 : decode cX6_send 2 = .ok (.getfield 157, 3) := by decide +kernel
theorem dX6_send_5 : decode cX6_send 5 = .ok (.ifCond .eq 27, 3) := by decide +kernel
theorem dX6_send_8 : decode cX6_send 8 = .ok (.aload_n 0, 1) := by decide +kernel
theorem dX6_send_9 : decode cX6_send 9 = .ok (.getfield 115, 3) := by decide +kernel
theorem dX6_send_12 : decode cX6_send 12 = .ok (.aload_n 0, 1) := by decide +kernel
theorem dX6_send_13 : decode cX6_send 13 = .ok (.getfield 161, 3) := by decide +kernel
theorem dX6_send_16 : decode cX6_send 16 = .ok (.if_icmp .eq 16, 3) := by decide +kernel
theorem dX6_send_19 : decode cX6_send 19 = .ok (.aload_n 0, 1) := by decide +kernel
theorem dX6_send_20 : decode cX6_send 20 = .ok (.getfield 161, 3) := by decide +kernel
theorem dX6_send_23 : decode cX6_send 23 = .ok (.aload_n 0, 1) := by decide +kernel
theorem dX6_send_24 : decode cX6_send 24 = .ok (.getfield 118, 3) := by decide +kernel
theorem dX6_send_27 : decode cX6_send 27 = .ok (.isub, 1) := by decide +kernel
theorem dX6_send_28 : decode cX6_send 28 = .ok (.iconst 5, 1) := by decide +kernel
theorem dX6_send_29 : decode cX6_send 29 = .ok (.if_icmp .ne 7, 3) := by decide +kernel
theorem dX6_send_32 : decode cX6_send 32 = .ok (.iconst 1, 1) := by decide +kernel
theorem dX6_send_33 : decode cX6_send 33 = .ok (.goto 4, 3) := by decide +kernel
theorem dX6_send_36 : decode cX6_send 36 = .ok (.iconst 0, 1) := by decide +kernel
theorem dX6_send_37 : decode cX6_send 37 = .ok (.invokevirtual 94, 3) := by decide +kernel
theorem dX6_send_40 : decode cX6_send 40 = .ok (.ifCond .ne 5, 3) := by decide +kernel
theorem dX6_send_43 : decode cX6_send 43 = .ok (.iconst 0, 1) := by decide +kernel
theorem dX6_send_44 : decode cX6_send 44 = .ok (.ireturn, 1) := by decide +kernel
theorem dX6_send_45 : decode cX6_send 45 = .ok (.aload_n 0, 1) := by decide +kernel
theorem dX6_send_46 : decode cX6_send 46 = .ok (.dup, 1) := by decide +kernel
theorem dX6_send_47 : decode cX6_send 47 = .ok (.getfield 161, 3) := by decide +kernel
theorem dX6_send_50 : decode cX6_send 50 = .ok (.iconst 1, 1) := by decide +kernel
theorem dX6_send_51 : decode cX6_send 51 = .ok (.iadd, 1) := by decide +kernel
theorem dX6_send_52 : decode cX6_send 52 = .ok (.putfield 161, 3) := by decide +kernel
theorem dX6_send_55 : decode cX6_send 55 = .ok (.aload_n 0, 1) := by decide +kernel
theorem dX6_send_56 : decode cX6_send 56 = .ok (.getfield 78, 3) := by decide +kernel
theorem dX6_send_59 : decode cX6_send 59 = .ok (.aload_n 0, 1) := by decide +kernel
theorem dX6_send_60 : decode cX6_send 60 = .ok (.getfield 161, 3) := by decide +kernel
theorem dX6_send_63 : decode cX6_send 63 = .ok (.iconst 1, 1) := by decide +kernel
theorem dX6_send_64 : decode cX6_send 64 = .ok (.isub, 1) := by decide +kernel
theorem dX6_send_65 : decode cX6_send 65 = .ok (.iaload, 1) := by decide +kernel
theorem dX6_send_66 : decode cX6_send 66 = .ok (.ireturn, 1) := by decide +kernel
set_option maxRecDepth 20000 in
theorem ggX6_acknowledge_X6_holds : GoodIn wsX6_acknowledge wsX6_holds := goodIn_r _ [8, 9, 10, 11, 12, 13, 14, 15, 16, 17, 18, 19, 20, 21, 22, 23, 24, 25, 26, 27, 28, 29, 30, 31, 32, 33, 34, 35, 36, 37, 38, 39, 40, 41, 42, 43] (by decide +kernel) (by decide +kernel)
set_option maxRecDepth 20000 in
theorem gX6_acknowledge_X6_holds : GoodIn wsX6_acknowledge (wsV RX6 94 RX6 yX6_holds wsX6_holds) := goodIn_app (goodIn_of _ (by decide +kernel)) ggX6_acknowledge_X6_holds
theorem dX6_acknowledge_0 : decode cX6_acknowledge 0 = .ok (.aload_n 0, 1) := by decide +kernel
theorem dX6_acknowledge_1 : decode cX6_acknowledge 1 = .ok (.aload_n 0, 1) := by decide +kernel
theorem dX6_acknowledge_2 : decode cX6_acknowledge 2 = .ok (.getfield 161, 3) := by decide +kernel
theorem dX6_acknowledge_5 : decode cX6_acknowledge 5 = .ok (.aload_n 0, 1) := by decide +kernel
theorem dX6_acknowledge_6 : decode cX6_acknowledge 6 = .ok (.getfield 118, 3) := by decide +kernel
theorem dX6_acknowledge_9 : decode cX6_acknowledge 9 = .ok (.if_icmp .ne 7, 3) := by decide +kernel
theorem dX6_acknowledge_12 : decode cX6_acknowledge 12 = .ok (.iconst 1, 1) := by decide +kernel
theorem dX6_acknowledge_13 : decode cX6_acknowledge 13 = .ok (.goto 4, 3) := by decide +kernel
theorem dX6_acknowledge_16 : decode cX6_acknowledge 16 = .ok (.iconst 0, 1) := by decide +kernel
theorem dX6_acknowledge_17 : decode cX6_acknowledge 17 = .ok (.invokevirtual 94, 3) := by decide +kernel
theorem dX6_acknowledge_20 : decode cX6_acknowledge 20 = .ok (.ifCond .ne 5, 3) := by decide +kernel
theorem dX6_acknowledge_23 : decode cX6_acknowledge 23 = .ok (.iconst 0, 1) := by decide +kernel
theorem dX6_acknowledge_24 : decode cX6_acknowledge 24 = .ok (.ireturn, 1) := by decide +kernel
theorem dX6_acknowledge_25 : decode cX6_acknowledge 25 = .ok (.aload_n 0, 1) := by decide +kernel
theorem dX6_acknowledge_26 : decode cX6_acknowledge 26 = .ok (.dup, 1) := by decide +kernel
theorem dX6_acknowledge_27 : decode cX6_acknowledge 27 = .ok (.getfield 118, 3) := by decide +kernel
theorem dX6_acknowledge_30 : decode cX6_acknowledge 30 = .ok (.iconst 1, 1) := by decide +kernel
theorem dX6_acknowledge_31 : decode cX6_acknowledge 31 = .ok (.iadd, 1) := by decide +kernel
theorem dX6_acknowledge_32 : decode cX6_acknowledge 32 = .ok (.putfield 118, 3) := by decide +kernel
theorem dX6_acknowledge_35 : decode cX6_acknowledge 35 = .ok (.aload_n 0, 1) := by decide +kernel
theorem dX6_acknowledge_36 : decode cX6_acknowledge 36 = .ok (.getfield 78, 3) := by decide +kernel
theorem dX6_acknowledge_39 : decode cX6_acknowledge 39 = .ok (.aload_n 0, 1) := by decide +kernel
theorem dX6_acknowledge_40 : decode cX6_acknowledge 40 = .ok (.getfield 118, 3) := by decide +kernel
theorem dX6_acknowledge_43 : decode cX6_acknowledge 43 = .ok (.iconst 1, 1) := by decide +kernel
theorem dX6_acknowledge_44 : decode cX6_acknowledge 44 = .ok (.isub, 1) := by decide +kernel
theorem dX6_acknowledge_45 : decode cX6_acknowledge 45 = .ok (.iaload, 1) := by decide +kernel
theorem dX6_acknowledge_46 : decode cX6_acknowledge 46 = .ok (.ireturn, 1) := by decide +kernel
theorem dX6_time_0 : decode cX6_time 0 = .ok (.aload_n 0, 1) := by decide +kernel
theorem dX6_time_1 : decode cX6_time 1 = .ok (.iconst 0, 1) := by decide +kernel
theorem dX6_time_2 : decode cX6_time 2 = .ok (.putfield 87, 3) := by decide +kernel
theorem dX6_time_5 : decode cX6_time 5 = .ok (.aload_n 0, 1) := by decide +kernel
theorem dX6_time_6 : decode cX6_time 6 = .ok (.getfield 112, 3) := by decide +kernel
theorem dX6_time_9 : decode cX6_time 9 = .ok (.ireturn, 1) := by decide +kernel
set_option maxRecDepth 20000 in
theorem ggX6_isSender_X6_isIn : GoodIn wsX6_isSender wsX6_isIn := goodIn_r _ [4] (by decide +kernel) (by decide +kernel)
set_option maxRecDepth 20000 in
theorem gX6_isSender_X6_isIn : GoodIn wsX6_isSender (va_wsS RX6 90 yX6_isIn wsX6_isIn) := goodIn_app (goodIn_of _ (by decide +kernel)) ggX6_isSender_X6_isIn
set_option maxRecDepth 20000 in
theorem ggX6_isSender_X6_holds : GoodIn wsX6_isSender wsX6_holds := goodIn_r _ [8, 9, 10, 11, 12, 13, 14, 15, 16, 17, 18, 19, 20, 21, 22, 23, 24, 25, 26, 27, 28, 29, 30, 31, 32, 33, 34, 35, 36, 37, 38, 39, 40, 41, 42, 43] (by decide +kernel) (by decide +kernel)
set_option maxRecDepth 20000 in
theorem gX6_isSender_X6_holds : GoodIn wsX6_isSender (wsV RX6 94 RX6 yX6_holds wsX6_holds) := goodIn_app (goodIn_of _ (by decide +kernel)) ggX6_isSender_X6_holds
theorem dX6_isSender_0 : decode cX6_isSender 0 = .ok (.aload_n 0, 1) := by decide +kernel
theorem dX6_isSender_1 : decode cX6_isSender 1 = .ok (.iload_n 1, 1) := by decide +kernel
theorem dX6_isSender_2 : decode cX6_isSender 2 = .ok (.iconst 0, 1) := by decide +kernel
theorem dX6_isSender_3 : decode cX6_isSender 3 = .ok (.iconst 5, 1) := by decide +kernel
theorem dX6_isSender_4 : decode cX6_isSender 4 = .ok (.invokestatic 90, 3) := by decide +kernel
theorem dX6_isSender_7 : decode cX6_isSender 7 = .ok (.ifCond .eq 7, 3) := by decide +kernel
theorem dX6_isSender_10 : decode cX6_isSender 10 = .ok (.iconst 0, 1) := by decide +kernel
theorem dX6_isSender_11 : decode cX6_isSender 11 = .ok (.goto 4, 3) := by decide +kernel
theorem dX6_isSender_14 : decode cX6_isSender 14 = .ok (.iconst 1, 1) := by decide +kernel
theorem dX6_isSender_15 : decode cX6_isSender 15 = .ok (.invokevirtual 94, 3) := by decide +kernel
theorem dX6_isSender_18 : decode cX6_isSender 18 = .ok (.ireturn, 1) := by decide +kernel
set_option maxRecDepth 20000 in
theorem ggX6_tokens_X6_isSender : GoodIn wsX6_tokens wsX6_isSender := goodIn_r _ [6, 7, 8, 5, 9, 10, 11, 12, 13, 14, 15, 16, 17, 18, 19, 20, 21, 22, 23, 24, 25, 26, 27, 28, 29, 30, 31, 32, 33, 34, 35, 36, 37, 38, 39, 40, 41, 42, 43, 44, 45, 46, 47, 48] (by decide +kernel) (by decide +kernel)
set_option maxRecDepth 20000 in
theorem gX6_tokens_X6_isSender : GoodIn wsX6_tokens (wsV RX6 164 RX6 yX6_isSender wsX6_isSender) := goodIn_app (goodIn_of _ (by decide +kernel)) ggX6_tokens_X6_isSender
theorem dX6_tokens_0 : decode cX6_tokens 0 = .ok (.aload_n 0, 1) := by decide +kernel
theorem dX6_tokens_1 : decode cX6_tokens 1 = .ok (.iload_n 1, 1) := by decide +kernel
theorem dX6_tokens_2 : decode cX6_tokens 2 = .ok (.invokevirtual 164, 3) := by decide +kernel
theorem dX6_tokens_5 : decode cX6_tokens 5 = .ok (.ifCond .eq 12, 3) := by decide +kernel
theorem dX6_tokens_8 : decode cX6_tokens 8 = .ok (.aload_n 0, 1) := by decide +kernel
theorem dX6_tokens_9 : decode cX6_tokens 9 = .ok (.getfield 19, 3) := by decide +kernel
theorem dX6_tokens_12 : decode cX6_tokens 12 = .ok (.iload_n 1, 1) := by decide +kernel
theorem dX6_tokens_13 : decode cX6_tokens 13 = .ok (.iaload, 1) := by decide +kernel
theorem dX6_tokens_14 : decode cX6_tokens 14 = .ok (.goto 4, 3) := by decide +kernel
theorem dX6_tokens_17 : decode cX6_tokens 17 = .ok (.iconst 0, 1) := by decide +kernel
theorem dX6_tokens_18 : decode cX6_tokens 18 = .ok (.ireturn, 1) := by decide +kernel
set_option maxRecDepth 20000 in
theorem ggX6_repeats_X6_isSender : GoodIn wsX6_repeats wsX6_isSender := goodIn_r _ [6, 7, 8, 5, 9, 10, 11, 12, 13, 14, 15, 16, 17, 18, 19, 20, 21, 22, 23, 24, 25, 26, 27, 28, 29, 30, 31, 32, 33, 34, 35, 36, 37, 38, 39, 40, 41, 42, 43, 44, 45, 46, 47, 48] (by decide +kernel) (by decide +kernel)
set_option maxRecDepth 20000 in
theorem gX6_repeats_X6_isSender : GoodIn wsX6_repeats (wsV RX6 164 RX6 yX6_isSender wsX6_isSender) := goodIn_app (goodIn_of _ (by decide +kernel)) ggX6_repeats_X6_isSender
theorem dX6_repeats_0 : decode cX6_repeats 0 = .ok (.aload_n 0, 1) := by decide +kernel
theorem dX6_repeats_1 : decode cX6_repeats 1 = .ok (.iload_n 1, 1) := by decide +kernel
theorem dX6_repeats_2 : decode cX6_repeats 2 = .ok (.invokevirtual 164, 3) := by decide +kernel
theorem dX6_repeats_5 : decode cX6_repeats 5 = .ok (.ifCond .eq 12, 3) := by decide +kernel
theorem dX6_repeats_8 : decode cX6_repeats 8 = .ok (.aload_n 0, 1) := by decide +kernel
theorem dX6_repeats_9 : decode cX6_repeats 9 = .ok (.getfield 23, 3) := by decide +kernel
theorem dX6_repeats_12 : decode cX6_repeats 12 = .ok (.iload_n 1, 1) := by decide +kernel
theorem dX6_repeats_13 : decode cX6_repeats 13 = .ok (.iaload, 1) := by decide +kernel
theorem dX6_repeats_14 : decode cX6_repeats 14 = .ok (.goto 4, 3) := by decide +kernel
theorem dX6_repeats_17 : decode cX6_repeats 17 = .ok (.iconst 0, 1) := by decide +kernel
theorem dX6_repeats_18 : decode cX6_repeats 18 = .ok (.ireturn, 1) := by decide +kernel
set_option maxRecDepth 20000 in
theorem ggX6_drops_X6_isSender : GoodIn wsX6_drops wsX6_isSender := goodIn_r _ [6, 7, 8, 5, 9, 10, 11, 12, 13, 14, 15, 16, 17, 18, 19, 20, 21, 22, 23, 24, 25, 26, 27, 28, 29, 30, 31, 32, 33, 34, 35, 36, 37, 38, 39, 40, 41, 42, 43, 44, 45, 46, 47, 48] (by decide +kernel) (by decide +kernel)
set_option maxRecDepth 20000 in
theorem gX6_drops_X6_isSender : GoodIn wsX6_drops (wsV RX6 164 RX6 yX6_isSender wsX6_isSender) := goodIn_app (goodIn_of _ (by decide +kernel)) ggX6_drops_X6_isSender
theorem dX6_drops_0 : decode cX6_drops 0 = .ok (.aload_n 0, 1) := by decide +kernel
theorem dX6_drops_1 : decode cX6_drops 1 = .ok (.iload_n 1, 1) := by decide +kernel
theorem dX6_drops_2 : decode cX6_drops 2 = .ok (.invokevirtual 164, 3) := by decide +kernel
theorem dX6_drops_5 : decode cX6_drops 5 = .ok (.ifCond .eq 12, 3) := by decide +kernel
theorem dX6_drops_8 : decode cX6_drops 8 = .ok (.aload_n 0, 1) := by decide +kernel
theorem dX6_drops_9 : decode cX6_drops 9 = .ok (.getfield 29, 3) := by decide +kernel
theorem dX6_drops_12 : decode cX6_drops 12 = .ok (.iload_n 1, 1) := by decide +kernel
theorem dX6_drops_13 : decode cX6_drops 13 = .ok (.iaload, 1) := by decide +kernel
theorem dX6_drops_14 : decode cX6_drops 14 = .ok (.goto 4, 3) := by decide +kernel
theorem dX6_drops_17 : decode cX6_drops 17 = .ok (.iconst 0, 1) := by decide +kernel
theorem dX6_drops_18 : decode cX6_drops 18 = .ok (.ireturn, 1) := by decide +kernel
set_option maxRecDepth 20000 in
theorem ggX6_size_X6_isFile : GoodIn wsX6_size wsX6_isFile := goodIn_r _ [5, 6, 7, 4, 8] (by decide +kernel) (by decide +kernel)
set_option maxRecDepth 20000 in
theorem gX6_size_X6_isFile : GoodIn wsX6_size (va_wsS RX6 98 yX6_isFile wsX6_isFile) := goodIn_app (goodIn_of _ (by decide +kernel)) ggX6_size_X6_isFile
set_option maxRecDepth 20000 in
theorem ggX6_size_X6_holds : GoodIn wsX6_size wsX6_holds := goodIn_r _ [12, 13, 14, 15, 16, 17, 18, 19, 20, 21, 22, 23, 24, 25, 26, 27, 28, 29, 30, 31, 32, 33, 34, 35, 36, 37, 38, 39, 40, 41, 42, 43, 44, 45, 46, 47] (by decide +kernel) (by decide +kernel)
set_option maxRecDepth 20000 in
theorem gX6_size_X6_holds : GoodIn wsX6_size (wsV RX6 94 RX6 yX6_holds wsX6_holds) := goodIn_app (goodIn_of _ (by decide +kernel)) ggX6_size_X6_holds
theorem dX6_size_0 : decode cX6_size 0 = .ok (.aload_n 0, 1) := by decide +kernel
theorem dX6_size_1 : decode cX6_size 1 = .ok (.iload_n 1, 1) := by decide +kernel
theorem dX6_size_2 : decode cX6_size 2 = .ok (.invokestatic 98, 3) := by decide +kernel
theorem dX6_size_5 : decode cX6_size 5 = .ok (.ifCond .eq 7, 3) := by decide +kernel
theorem dX6_size_8 : decode cX6_size 8 = .ok (.iconst 0, 1) := by decide +kernel
theorem dX6_size_9 : decode cX6_size 9 = .ok (.goto 4, 3) := by decide +kernel
theorem dX6_size_12 : decode cX6_size 12 = .ok (.iconst 1, 1) := by decide +kernel
theorem dX6_size_13 : decode cX6_size 13 = .ok (.invokevirtual 94, 3) := by decide +kernel
theorem dX6_size_16 : decode cX6_size 16 = .ok (.ifCond .eq 12, 3) := by decide +kernel
theorem dX6_size_19 : decode cX6_size 19 = .ok (.aload_n 0, 1) := by decide +kernel
theorem dX6_size_20 : decode cX6_size 20 = .ok (.getfield 60, 3) := by decide +kernel
theorem dX6_size_23 : decode cX6_size 23 = .ok (.iload_n 1, 1) := by decide +kernel
theorem dX6_size_24 : decode cX6_size 24 = .ok (.iaload, 1) := by decide +kernel
theorem dX6_size_25 : decode cX6_size 25 = .ok (.goto 4, 3) := by decide +kernel
theorem dX6_size_28 : decode cX6_size 28 = .ok (.iconst 0, 1) := by decide +kernel
theorem dX6_size_29 : decode cX6_size 29 = .ok (.ireturn, 1) := by decide +kernel
set_option maxRecDepth 20000 in
theorem ggX6_isPart_X6_isFile : GoodIn wsX6_isPart wsX6_isFile := goodIn_r _ [5, 6, 7, 4, 8] (by decide +kernel) (by decide +kernel)
set_option maxRecDepth 20000 in
theorem gX6_isPart_X6_isFile : GoodIn wsX6_isPart (va_wsS RX6 98 yX6_isFile wsX6_isFile) := goodIn_app (goodIn_of _ (by decide +kernel)) ggX6_isPart_X6_isFile
theorem dX6_isPart_0 : decode cX6_isPart 0 = .ok (.iload_n 1, 1) := by decide +kernel
theorem dX6_isPart_1 : decode cX6_isPart 1 = .ok (.invokestatic 98, 3) := by decide +kernel
theorem dX6_isPart_4 : decode cX6_isPart 4 = .ok (.ifCond .eq 22, 3) := by decide +kernel
theorem dX6_isPart_7 : decode cX6_isPart 7 = .ok (.iload_n 2, 1) := by decide +kernel
theorem dX6_isPart_8 : decode cX6_isPart 8 = .ok (.iconst (-1), 1) := by decide +kernel
theorem dX6_isPart_9 : decode cX6_isPart 9 = .ok (.if_icmp .lt 17, 3) := by decide +kernel
theorem dX6_isPart_12 : decode cX6_isPart 12 = .ok (.iload_n 2, 1) := by decide +kernel
theorem dX6_isPart_13 : decode cX6_isPart 13 = .ok (.aload_n 0, 1) := by decide +kernel
theorem dX6_isPart_14 : decode cX6_isPart 14 = .ok (.getfield 66, 3) := by decide +kernel
theorem dX6_isPart_17 : decode cX6_isPart 17 = .ok (.iload_n 1, 1) := by decide +kernel
theorem dX6_isPart_18 : decode cX6_isPart 18 = .ok (.iaload, 1) := by decide +kernel
theorem dX6_isPart_19 : decode cX6_isPart 19 = .ok (.if_icmp .ge 7, 3) := by decide +kernel
theorem dX6_isPart_22 : decode cX6_isPart 22 = .ok (.iconst 1, 1) := by decide +kernel
theorem dX6_isPart_23 : decode cX6_isPart 23 = .ok (.goto 4, 3) := by decide +kernel
theorem dX6_isPart_26 : decode cX6_isPart 26 = .ok (.iconst 0, 1) := by decide +kernel
theorem dX6_isPart_27 : decode cX6_isPart 27 = .ok (.ireturn, 1) := by decide +kernel
theorem dX6_startOf_0 : decode cX6_startOf 0 = .ok (.aload_n 0, 1) := by decide +kernel
theorem dX6_startOf_1 : decode cX6_startOf 1 = .ok (.getfield 69, 3) := by decide +kernel
theorem dX6_startOf_4 : decode cX6_startOf 4 = .ok (.bipush 7, 2) := by decide +kernel
theorem dX6_startOf_6 : decode cX6_startOf 6 = .ok (.iload_n 1, 1) := by decide +kernel
theorem dX6_startOf_7 : decode cX6_startOf 7 = .ok (.imul, 1) := by decide +kernel
theorem dX6_startOf_8 : decode cX6_startOf 8 = .ok (.iload_n 2, 1) := by decide +kernel
theorem dX6_startOf_9 : decode cX6_startOf 9 = .ok (.iadd, 1) := by decide +kernel
theorem dX6_startOf_10 : decode cX6_startOf 10 = .ok (.iconst 1, 1) := by decide +kernel
theorem dX6_startOf_11 : decode cX6_startOf 11 = .ok (.iadd, 1) := by decide +kernel
theorem dX6_startOf_12 : decode cX6_startOf 12 = .ok (.iaload, 1) := by decide +kernel
theorem dX6_startOf_13 : decode cX6_startOf 13 = .ok (.ireturn, 1) := by decide +kernel
theorem dX6_endOf_0 : decode cX6_endOf 0 = .ok (.iload_n 2, 1) := by decide +kernel
theorem dX6_endOf_1 : decode cX6_endOf 1 = .ok (.iconst (-1), 1) := by decide +kernel
theorem dX6_endOf_2 : decode cX6_endOf 2 = .ok (.if_icmp .ne 12, 3) := by decide +kernel
theorem dX6_endOf_5 : decode cX6_endOf 5 = .ok (.aload_n 0, 1) := by decide +kernel
theorem dX6_endOf_6 : decode cX6_endOf 6 = .ok (.getfield 63, 3) := by decide +kernel
theorem dX6_endOf_9 : decode cX6_endOf 9 = .ok (.iload_n 1, 1) := by decide +kernel
theorem dX6_endOf_10 : decode cX6_endOf 10 = .ok (.iaload, 1) := by decide +kernel
theorem dX6_endOf_11 : decode cX6_endOf 11 = .ok (.goto 14, 3) := by decide +kernel
theorem dX6_endOf_14 : decode cX6_endOf 14 = .ok (.aload_n 0, 1) := by decide +kernel
theorem dX6_endOf_15 : decode cX6_endOf 15 = .ok (.getfield 69, 3) := by decide +kernel
theorem dX6_endOf_18 : decode cX6_endOf 18 = .ok (.bipush 7, 2) := by decide +kernel
theorem dX6_endOf_20 : decode cX6_endOf 20 = .ok (.iload_n 1, 1) := by decide +kernel
theorem dX6_endOf_21 : decode cX6_endOf 21 = .ok (.imul, 1) := by decide +kernel
theorem dX6_endOf_22 : decode cX6_endOf 22 = .ok (.iload_n 2, 1) := by decide +kernel
theorem dX6_endOf_23 : decode cX6_endOf 23 = .ok (.iadd, 1) := by decide +kernel
theorem dX6_endOf_24 : decode cX6_endOf 24 = .ok (.iaload, 1) := by decide +kernel
theorem dX6_endOf_25 : decode cX6_endOf 25 = .ok (.ireturn, 1) := by decide +kernel
set_option maxRecDepth 20000 in
theorem ggX6_lines_X6_isPart : GoodIn wsX6_lines wsX6_isPart := goodIn_r _ [5, 6, 7, 8, 4, 9, 10, 11, 12, 28, 29, 30, 31, 32, 33, 34, 35, 36, 37, 38, 39, 40, 41, 42, 43, 44, 45, 46, 47, 48, 49, 50, 51, 52, 53, 54, 55, 56, 57, 58, 59, 60, 61] (by decide +kernel) (by decide +kernel)
set_option maxRecDepth 20000 in
theorem gX6_lines_X6_isPart : GoodIn wsX6_lines (wsV RX6 167 RX6 yX6_isPart wsX6_isPart) := goodIn_app (goodIn_of _ (by decide +kernel)) ggX6_lines_X6_isPart
set_option maxRecDepth 20000 in
theorem ggX6_lines_X6_holds : GoodIn wsX6_lines wsX6_holds := goodIn_r _ [16, 17, 28, 29, 30, 31, 32, 33, 34, 35, 36, 37, 38, 39, 40, 41, 42, 43, 44, 45, 46, 47, 48, 49, 50, 51, 52, 53, 54, 55, 56, 57, 58, 59, 60, 61] (by decide +kernel) (by decide +kernel)
set_option maxRecDepth 20000 in
theorem gX6_lines_X6_holds : GoodIn wsX6_lines (wsV RX6 94 RX6 yX6_holds wsX6_holds) := goodIn_app (goodIn_of _ (by decide +kernel)) ggX6_lines_X6_holds
set_option maxRecDepth 20000 in
theorem ggX6_lines_X6_endOf : GoodIn wsX6_lines wsX6_endOf := goodIn_r _ [21, 22, 23, 28, 29, 30, 31, 32, 33, 34, 35, 36, 37, 38, 39, 40, 41, 42, 43, 44, 45, 46, 47, 48, 49, 50, 51, 52, 53, 54, 55, 56, 57, 58, 59, 60, 61] (by decide +kernel) (by decide +kernel)
set_option maxRecDepth 20000 in
theorem gX6_lines_X6_endOf : GoodIn wsX6_lines (wsV RX6 171 RX6 yX6_endOf wsX6_endOf) := goodIn_app (goodIn_of _ (by decide +kernel)) ggX6_lines_X6_endOf
set_option maxRecDepth 20000 in
theorem ggX6_lines_X6_startOf : GoodIn wsX6_lines wsX6_startOf := goodIn_r _ [27, 23, 28, 29, 30, 31, 32, 33, 34, 35, 36, 37, 38, 39, 40, 41, 42, 43, 44, 45, 46, 47, 48, 49, 50, 51, 52, 53, 54, 55, 56, 57, 58, 59, 60, 61] (by decide +kernel) (by decide +kernel)
set_option maxRecDepth 20000 in
theorem gX6_lines_X6_startOf : GoodIn wsX6_lines (wsV RX6 174 RX6 yX6_startOf wsX6_startOf) := goodIn_app (goodIn_of _ (by decide +kernel)) ggX6_lines_X6_startOf
theorem dX6_lines_0 : decode cX6_lines 0 = .ok (.aload_n 0, 1) := by decide +kernel
theorem dX6_lines_1 : decode cX6_lines 1 = .ok (.aload_n 0, 1) := by decide +kernel
theorem dX6_lines_2 : decode cX6_lines 2 = .ok (.iload_n 1, 1) := by decide +kernel
theorem dX6_lines_3 : decode cX6_lines 3 = .ok (.iload_n 2, 1) := by decide +kernel
theorem dX6_lines_4 : decode cX6_lines 4 = .ok (.invokevirtual 167, 3) := by decide +kernel
theorem dX6_lines_7 : decode cX6_lines 7 = .ok (.ifCond .eq 7, 3) := by decide +kernel
theorem dX6_lines_10 : decode cX6_lines 10 = .ok (.iconst 0, 1) := by decide +kernel
theorem dX6_lines_11 : decode cX6_lines 11 = .ok (.goto 4, 3) := by decide +kernel
theorem dX6_lines_14 : decode cX6_lines 14 = .ok (.iconst 1, 1) := by decide +kernel
theorem dX6_lines_15 : decode cX6_lines 15 = .ok (.invokevirtual 94, 3) := by decide +kernel
theorem dX6_lines_18 : decode cX6_lines 18 = .ok (.ifCond .eq 19, 3) := by decide +kernel
theorem dX6_lines_21 : decode cX6_lines 21 = .ok (.aload_n 0, 1) := by decide +kernel
theorem dX6_lines_22 : decode cX6_lines 22 = .ok (.iload_n 1, 1) := by decide +kernel
theorem dX6_lines_23 : decode cX6_lines 23 = .ok (.iload_n 2, 1) := by decide +kernel
theorem dX6_lines_24 : decode cX6_lines 24 = .ok (.invokevirtual 171, 3) := by decide +kernel
theorem dX6_lines_27 : decode cX6_lines 27 = .ok (.aload_n 0, 1) := by decide +kernel
theorem dX6_lines_28 : decode cX6_lines 28 = .ok (.iload_n 1, 1) := by decide +kernel
theorem dX6_lines_29 : decode cX6_lines 29 = .ok (.iload_n 2, 1) := by decide +kernel
theorem dX6_lines_30 : decode cX6_lines 30 = .ok (.invokevirtual 174, 3) := by decide +kernel
theorem dX6_lines_33 : decode cX6_lines 33 = .ok (.isub, 1) := by decide +kernel
theorem dX6_lines_34 : decode cX6_lines 34 = .ok (.goto 4, 3) := by decide +kernel
theorem dX6_lines_37 : decode cX6_lines 37 = .ok (.iconst 0, 1) := by decide +kernel
theorem dX6_lines_38 : decode cX6_lines 38 = .ok (.ireturn, 1) := by decide +kernel
set_option maxRecDepth 20000 in
theorem ggX6_line_X6_isPart : GoodIn wsX6_line wsX6_isPart := goodIn_r _ [6, 7, 8, 9, 5, 10, 11, 12, 13, 29, 30, 31, 32, 33, 34, 35, 36, 37, 38, 39, 40, 41, 42, 43, 44, 45, 46, 47, 48, 49, 50, 51, 52, 53, 54, 55, 56, 57, 58, 59, 60, 61, 62] (by decide +kernel) (by decide +kernel)
set_option maxRecDepth 20000 in
theorem gX6_line_X6_isPart : GoodIn wsX6_line (wsV RX6 167 RX6 yX6_isPart wsX6_isPart) := goodIn_app (goodIn_of _ (by decide +kernel)) ggX6_line_X6_isPart
set_option maxRecDepth 20000 in
theorem ggX6_line_X6_endOf : GoodIn wsX6_line wsX6_endOf := goodIn_r _ [17, 18, 19, 29, 30, 31, 32, 33, 34, 35, 36, 37, 38, 39, 40, 41, 42, 43, 44, 45, 46, 47, 48, 49, 50, 51, 52, 53, 54, 55, 56, 57, 58, 59, 60, 61, 62] (by decide +kernel) (by decide +kernel)
set_option maxRecDepth 20000 in
theorem gX6_line_X6_endOf : GoodIn wsX6_line (wsV RX6 171 RX6 yX6_endOf wsX6_endOf) := goodIn_app (goodIn_of _ (by decide +kernel)) ggX6_line_X6_endOf
set_option maxRecDepth 20000 in
theorem ggX6_line_X6_startOf : GoodIn wsX6_line wsX6_startOf := goodIn_r _ [23, 19, 29, 30, 31, 32, 33, 34, 35, 36, 37, 38, 39, 40, 41, 42, 43, 44, 45, 46, 47, 48, 49, 50, 51, 52, 53, 54, 55, 56, 57, 58, 59, 60, 61, 62] (by decide +kernel) (by decide +kernel)
set_option maxRecDepth 20000 in
theorem gX6_line_X6_startOf : GoodIn wsX6_line (wsV RX6 174 RX6 yX6_startOf wsX6_startOf) := goodIn_app (goodIn_of _ (by decide +kernel)) ggX6_line_X6_startOf
set_option maxRecDepth 20000 in
theorem ggX6_line_X6_holds : GoodIn wsX6_line wsX6_holds := goodIn_r _ [27, 28, 29, 30, 31, 32, 33, 34, 35, 36, 37, 38, 39, 40, 41, 42, 43, 44, 45, 46, 47, 48, 49, 50, 51, 52, 53, 54, 55, 56, 57, 58, 59, 60, 61, 62] (by decide +kernel) (by decide +kernel)
set_option maxRecDepth 20000 in
theorem gX6_line_X6_holds : GoodIn wsX6_line (wsV RX6 94 RX6 yX6_holds wsX6_holds) := goodIn_app (goodIn_of _ (by decide +kernel)) ggX6_line_X6_holds
theorem dX6_line_0 : decode cX6_line 0 = .ok (.aload_n 0, 1) := by decide +kernel
theorem dX6_line_1 : decode cX6_line 1 = .ok (.iload_n 1, 1) := by decide +kernel
theorem dX6_line_2 : decode cX6_line 2 = .ok (.iload_n 2, 1) := by decide +kernel
theorem dX6_line_3 : decode cX6_line 3 = .ok (.invokevirtual 167, 3) := by decide +kernel
theorem dX6_line_6 : decode cX6_line 6 = .ok (.istore 4, 2) := by decide +kernel
theorem dX6_line_8 : decode cX6_line 8 = .ok (.aload_n 0, 1) := by decide +kernel
theorem dX6_line_9 : decode cX6_line 9 = .ok (.iload 4, 2) := by decide +kernel
theorem dX6_line_11 : decode cX6_line 11 = .ok (.ifCond .eq 28, 3) := by decide +kernel
theorem dX6_line_14 : decode cX6_line 14 = .ok (.iload_n 3, 1) := by decide +kernel
theorem dX6_line_15 : decode cX6_line 15 = .ok (.ifCond .lt 24, 3) := by decide +kernel
theorem dX6_line_18 : decode cX6_line 18 = .ok (.iload_n 3, 1) := by decide +kernel
theorem dX6_line_19 : decode cX6_line 19 = .ok (.aload_n 0, 1) := by decide +kernel
theorem dX6_line_20 : decode cX6_line 20 = .ok (.iload_n 1, 1) := by decide +kernel
theorem dX6_line_21 : decode cX6_line 21 = .ok (.iload_n 2, 1) := by decide +kernel
theorem dX6_line_22 : decode cX6_line 22 = .ok (.invokevirtual 171, 3) := by decide +kernel
theorem dX6_line_25 : decode cX6_line 25 = .ok (.aload_n 0, 1) := by decide +kernel
theorem dX6_line_26 : decode cX6_line 26 = .ok (.iload_n 1, 1) := by decide +kernel
theorem dX6_line_27 : decode cX6_line 27 = .ok (.iload_n 2, 1) := by decide +kernel
theorem dX6_line_28 : decode cX6_line 28 = .ok (.invokevirtual 174, 3) := by decide +kernel
theorem dX6_line_31 : decode cX6_line 31 = .ok (.isub, 1) := by decide +kernel
theorem dX6_line_32 : decode cX6_line 32 = .ok (.if_icmp .ge 7, 3) := by decide +kernel
theorem dX6_line_35 : decode cX6_line 35 = .ok (.iconst 0, 1) := by decide +kernel
theorem dX6_line_36 : decode cX6_line 36 = .ok (.goto 4, 3) := by decide +kernel
theorem dX6_line_39 : decode cX6_line 39 = .ok (.iconst 1, 1) := by decide +kernel
theorem dX6_line_40 : decode cX6_line 40 = .ok (.invokevirtual 94, 3) := by decide +kernel
theorem dX6_line_43 : decode cX6_line 43 = .ok (.ifCond .ne 5, 3) := by decide +kernel
theorem dX6_line_46 : decode cX6_line 46 = .ok (.iconst 0, 1) := by decide +kernel
theorem dX6_line_47 : decode cX6_line 47 = .ok (.ireturn, 1) := by decide +kernel
theorem dX6_line_48 : decode cX6_line 48 = .ok (.aload_n 0, 1) := by decide +kernel
theorem dX6_line_49 : decode cX6_line 49 = .ok (.getfield 72, 3) := by decide +kernel
theorem dX6_line_52 : decode cX6_line 52 = .ok (.sipush 400, 3) := by decide +kernel
theorem dX6_line_55 : decode cX6_line 55 = .ok (.iload_n 1, 1) := by decide +kernel
theorem dX6_line_56 : decode cX6_line 56 = .ok (.imul, 1) := by decide +kernel
theorem dX6_line_57 : decode cX6_line 57 = .ok (.aload_n 0, 1) := by decide +kernel
theorem dX6_line_58 : decode cX6_line 58 = .ok (.iload_n 1, 1) := by decide +kernel
theorem dX6_line_59 : decode cX6_line 59 = .ok (.iload_n 2, 1) := by decide +kernel
theorem dX6_line_60 : decode cX6_line 60 = .ok (.invokevirtual 174, 3) := by decide +kernel
theorem dX6_line_63 : decode cX6_line 63 = .ok (.iadd, 1) := by decide +kernel
theorem dX6_line_64 : decode cX6_line 64 = .ok (.iload_n 3, 1) := by decide +kernel
theorem dX6_line_65 : decode cX6_line 65 = .ok (.iadd, 1) := by decide +kernel
theorem dX6_line_66 : decode cX6_line 66 = .ok (.iaload, 1) := by decide +kernel
theorem dX6_line_67 : decode cX6_line 67 = .ok (.ireturn, 1) := by decide +kernel
set_option maxRecDepth 20000 in
theorem ggX6_generations_X6_isFile : GoodIn wsX6_generations wsX6_isFile := goodIn_r _ [5, 6, 7, 4, 8] (by decide +kernel) (by decide +kernel)
set_option maxRecDepth 20000 in
theorem gX6_generations_X6_isFile : GoodIn wsX6_generations (va_wsS RX6 98 yX6_isFile wsX6_isFile) := goodIn_app (goodIn_of _ (by decide +kernel)) ggX6_generations_X6_isFile
set_option maxRecDepth 20000 in
theorem ggX6_generations_X6_holds : GoodIn wsX6_generations wsX6_holds := goodIn_r _ [12, 13, 14, 15, 16, 17, 18, 19, 20, 21, 22, 23, 24, 25, 26, 27, 28, 29, 30, 31, 32, 33, 34, 35, 36, 37, 38, 39, 40, 41, 42, 43, 44, 45, 46, 47] (by decide +kernel) (by decide +kernel)
set_option maxRecDepth 20000 in
theorem gX6_generations_X6_holds : GoodIn wsX6_generations (wsV RX6 94 RX6 yX6_holds wsX6_holds) := goodIn_app (goodIn_of _ (by decide +kernel)) ggX6_generations_X6_holds
theorem dX6_generations_0 : decode cX6_generations 0 = .ok (.aload_n 0, 1) := by decide +kernel
theorem dX6_generations_1 : decode cX6_generations 1 = .ok (.iload_n 1, 1) := by decide +kernel
theorem dX6_generations_2 : decode cX6_generations 2 = .ok (.invokestatic 98, 3) := by decide +kernel
theorem dX6_generations_5 : decode cX6_generations 5 = .ok (.ifCond .eq 7, 3) := by decide +kernel
theorem dX6_generations_8 : decode cX6_generations 8 = .ok (.iconst 0, 1) := by decide +kernel
theorem dX6_generations_9 : decode cX6_generations 9 = .ok (.goto 4, 3) := by decide +kernel
theorem dX6_generations_12 : decode cX6_generations 12 = .ok (.iconst 1, 1) := by decide +kernel
theorem dX6_generations_13 : decode cX6_generations 13 = .ok (.invokevirtual 94, 3) := by decide +kernel
theorem dX6_generations_16 : decode cX6_generations 16 = .ok (.ifCond .eq 12, 3) := by decide +kernel
theorem dX6_generations_19 : decode cX6_generations 19 = .ok (.aload_n 0, 1) := by decide +kernel
theorem dX6_generations_20 : decode cX6_generations 20 = .ok (.getfield 66, 3) := by decide +kernel
theorem dX6_generations_23 : decode cX6_generations 23 = .ok (.iload_n 1, 1) := by decide +kernel
theorem dX6_generations_24 : decode cX6_generations 24 = .ok (.iaload, 1) := by decide +kernel
theorem dX6_generations_25 : decode cX6_generations 25 = .ok (.goto 4, 3) := by decide +kernel
theorem dX6_generations_28 : decode cX6_generations 28 = .ok (.iconst 0, 1) := by decide +kernel
theorem dX6_generations_29 : decode cX6_generations 29 = .ok (.ireturn, 1) := by decide +kernel
theorem dX6_queued_0 : decode cX6_queued 0 = .ok (.aload_n 0, 1) := by decide +kernel
theorem dX6_queued_1 : decode cX6_queued 1 = .ok (.iconst 0, 1) := by decide +kernel
theorem dX6_queued_2 : decode cX6_queued 2 = .ok (.putfield 87, 3) := by decide +kernel
theorem dX6_queued_5 : decode cX6_queued 5 = .ok (.aload_n 0, 1) := by decide +kernel
theorem dX6_queued_6 : decode cX6_queued 6 = .ok (.getfield 115, 3) := by decide +kernel
theorem dX6_queued_9 : decode cX6_queued 9 = .ok (.aload_n 0, 1) := by decide +kernel
theorem dX6_queued_10 : decode cX6_queued 10 = .ok (.getfield 161, 3) := by decide +kernel
theorem dX6_queued_13 : decode cX6_queued 13 = .ok (.isub, 1) := by decide +kernel
theorem dX6_queued_14 : decode cX6_queued 14 = .ok (.ireturn, 1) := by decide +kernel
theorem dX6_inFlight_0 : decode cX6_inFlight 0 = .ok (.aload_n 0, 1) := by decide +kernel
theorem dX6_inFlight_1 : decode cX6_inFlight 1 = .ok (.iconst 0, 1) := by decide +kernel
theorem dX6_inFlight_2 : decode cX6_inFlight 2 = .ok (.putfield 87, 3) := by decide +kernel
theorem dX6_inFlight_5 : decode cX6_inFlight 5 = .ok (.aload_n 0, 1) := by decide +kernel
theorem dX6_inFlight_6 : decode cX6_inFlight 6 = .ok (.getfield 161, 3) := by decide +kernel
theorem dX6_inFlight_9 : decode cX6_inFlight 9 = .ok (.aload_n 0, 1) := by decide +kernel
theorem dX6_inFlight_10 : decode cX6_inFlight 10 = .ok (.getfield 118, 3) := by decide +kernel
theorem dX6_inFlight_13 : decode cX6_inFlight 13 = .ok (.isub, 1) := by decide +kernel
theorem dX6_inFlight_14 : decode cX6_inFlight 14 = .ok (.ireturn, 1) := by decide +kernel
theorem dX6_acknowledged_0 : decode cX6_acknowledged 0 = .ok (.aload_n 0, 1) := by decide +kernel
theorem dX6_acknowledged_1 : decode cX6_acknowledged 1 = .ok (.iconst 0, 1) := by decide +kernel
theorem dX6_acknowledged_2 : decode cX6_acknowledged 2 = .ok (.putfield 87, 3) := by decide +kernel
theorem dX6_acknowledged_5 : decode cX6_acknowledged 5 = .ok (.aload_n 0, 1) := by decide +kernel
theorem dX6_acknowledged_6 : decode cX6_acknowledged 6 = .ok (.getfield 118, 3) := by decide +kernel
theorem dX6_acknowledged_9 : decode cX6_acknowledged 9 = .ok (.ireturn, 1) := by decide +kernel
theorem dX6_lost_0 : decode cX6_lost 0 = .ok (.aload_n 0, 1) := by decide +kernel
theorem dX6_lost_1 : decode cX6_lost 1 = .ok (.iconst 0, 1) := by decide +kernel
theorem dX6_lost_2 : decode cX6_lost 2 = .ok (.putfield 87, 3) := by decide +kernel
theorem dX6_lost_5 : decode cX6_lost 5 = .ok (.aload_n 0, 1) := by decide +kernel
theorem dX6_lost_6 : decode cX6_lost 6 = .ok (.getfield 121, 3) := by decide +kernel
theorem dX6_lost_9 : decode cX6_lost 9 = .ok (.ireturn, 1) := by decide +kernel
theorem dX6_messages_0 : decode cX6_messages 0 = .ok (.aload_n 0, 1) := by decide +kernel
theorem dX6_messages_1 : decode cX6_messages 1 = .ok (.iconst 0, 1) := by decide +kernel
theorem dX6_messages_2 : decode cX6_messages 2 = .ok (.putfield 87, 3) := by decide +kernel
theorem dX6_messages_5 : decode cX6_messages 5 = .ok (.aload_n 0, 1) := by decide +kernel
theorem dX6_messages_6 : decode cX6_messages 6 = .ok (.getfield 137, 3) := by decide +kernel
theorem dX6_messages_9 : decode cX6_messages 9 = .ok (.ireturn, 1) := by decide +kernel
set_option maxRecDepth 20000 in
theorem ggX6_isMessage_X6_holds : GoodIn wsX6_isMessage wsX6_holds := goodIn_r _ [6, 7, 8, 9, 10, 11, 12, 13, 14, 15, 16, 17, 18, 19, 20, 21, 22, 23, 24, 25, 26, 27, 28, 29, 30, 31, 32, 33, 34, 35, 36, 37, 38, 39, 40, 41] (by decide +kernel) (by decide +kernel)
set_option maxRecDepth 20000 in
theorem gX6_isMessage_X6_holds : GoodIn wsX6_isMessage (wsV RX6 94 RX6 yX6_holds wsX6_holds) := goodIn_app (goodIn_of _ (by decide +kernel)) ggX6_isMessage_X6_holds
theorem dX6_isMessage_0 : decode cX6_isMessage 0 = .ok (.aload_n 0, 1) := by decide +kernel
theorem dX6_isMessage_1 : decode cX6_isMessage 1 = .ok (.iload_n 1, 1) := by decide +kernel
theorem dX6_isMessage_2 : decode cX6_isMessage 2 = .ok (.ifCond .lt 15, 3) := by decide +kernel
theorem dX6_isMessage_5 : decode cX6_isMessage 5 = .ok (.iload_n 1, 1) := by decide +kernel
theorem dX6_isMessage_6 : decode cX6_isMessage 6 = .ok (.aload_n 0, 1) := by decide +kernel
theorem dX6_isMessage_7 : decode cX6_isMessage 7 = .ok (.getfield 137, 3) := by decide +kernel
theorem dX6_isMessage_10 : decode cX6_isMessage 10 = .ok (.if_icmp .ge 7, 3) := by decide +kernel
theorem dX6_isMessage_13 : decode cX6_isMessage 13 = .ok (.iconst 0, 1) := by decide +kernel
theorem dX6_isMessage_14 : decode cX6_isMessage 14 = .ok (.goto 4, 3) := by decide +kernel
theorem dX6_isMessage_17 : decode cX6_isMessage 17 = .ok (.iconst 1, 1) := by decide +kernel
theorem dX6_isMessage_18 : decode cX6_isMessage 18 = .ok (.invokevirtual 94, 3) := by decide +kernel
theorem dX6_isMessage_21 : decode cX6_isMessage 21 = .ok (.ireturn, 1) := by decide +kernel
set_option maxRecDepth 20000 in
theorem ggX6_fateOf_X6_isMessage : GoodIn wsX6_fateOf wsX6_isMessage := goodIn_r _ [6, 7, 8, 9, 10, 5, 11, 12, 13, 14, 15, 16, 17, 18, 19, 20, 21, 22, 23, 24, 25, 26, 27, 28, 29, 30, 31, 32, 33, 34, 35, 36, 37, 38, 39, 40, 41, 42, 43, 44, 45, 46] (by decide +kernel) (by decide +kernel)
set_option maxRecDepth 20000 in
theorem gX6_fateOf_X6_isMessage : GoodIn wsX6_fateOf (wsV RX6 177 RX6 yX6_isMessage wsX6_isMessage) := goodIn_app (goodIn_of _ (by decide +kernel)) ggX6_fateOf_X6_isMessage
theorem dX6_fateOf_0 : decode cX6_fateOf 0 = .ok (.aload_n 0, 1) := by decide +kernel
theorem dX6_fateOf_1 : decode cX6_fateOf 1 = .ok (.iload_n 1, 1) := by decide +kernel
theorem dX6_fateOf_2 : decode cX6_fateOf 2 = .ok (.invokevirtual 177, 3) := by decide +kernel
theorem dX6_fateOf_5 : decode cX6_fateOf 5 = .ok (.ifCond .eq 12, 3) := by decide +kernel
theorem dX6_fateOf_8 : decode cX6_fateOf 8 = .ok (.aload_n 0, 1) := by decide +kernel
theorem dX6_fateOf_9 : decode cX6_fateOf 9 = .ok (.getfield 81, 3) := by decide +kernel
theorem dX6_fateOf_12 : decode cX6_fateOf 12 = .ok (.iload_n 1, 1) := by decide +kernel
theorem dX6_fateOf_13 : decode cX6_fateOf 13 = .ok (.iaload, 1) := by decide +kernel
theorem dX6_fateOf_14 : decode cX6_fateOf 14 = .ok (.goto 4, 3) := by decide +kernel
theorem dX6_fateOf_17 : decode cX6_fateOf 17 = .ok (.iconst 0, 1) := by decide +kernel
theorem dX6_fateOf_18 : decode cX6_fateOf 18 = .ok (.ireturn, 1) := by decide +kernel
set_option maxRecDepth 20000 in
theorem ggX6_count_X6_isIn : GoodIn wsX6_count wsX6_isIn := goodIn_r _ [6] (by decide +kernel) (by decide +kernel)
set_option maxRecDepth 20000 in
theorem gX6_count_X6_isIn : GoodIn wsX6_count (va_wsS RX6 90 yX6_isIn wsX6_isIn) := goodIn_app (goodIn_of _ (by decide +kernel)) ggX6_count_X6_isIn
set_option maxRecDepth 20000 in
theorem ggX6_count_X6_holds : GoodIn wsX6_count wsX6_holds := goodIn_r _ [10, 11, 12, 13, 14, 15, 16, 17, 18, 19, 20, 21, 22, 23, 24, 25, 26, 27, 28, 29, 30, 31, 32, 33, 34, 35, 36, 37, 38, 39, 40, 41, 42, 43, 44, 45] (by decide +kernel) (by decide +kernel)
set_option maxRecDepth 20000 in
theorem gX6_count_X6_holds : GoodIn wsX6_count (wsV RX6 94 RX6 yX6_holds wsX6_holds) := goodIn_app (goodIn_of _ (by decide +kernel)) ggX6_count_X6_holds
theorem dX6_count_0 : decode cX6_count 0 = .ok (.aload_n 0, 1) := by decide +kernel
theorem dX6_count_1 : decode cX6_count 1 = .ok (.iload_n 1, 1) := by decide +kernel
theorem dX6_count_2 : decode cX6_count 2 = .ok (.iconst 0, 1) := by decide +kernel
theorem dX6_count_3 : decode cX6_count 3 = .ok (.iconst 3, 1) := by decide +kernel
theorem dX6_count_4 : decode cX6_count 4 = .ok (.invokestatic 90, 3) := by decide +kernel
theorem dX6_count_7 : decode cX6_count 7 = .ok (.ifCond .eq 7, 3) := by decide +kernel
theorem dX6_count_10 : decode cX6_count 10 = .ok (.iconst 0, 1) := by decide +kernel
theorem dX6_count_11 : decode cX6_count 11 = .ok (.goto 4, 3) := by decide +kernel
theorem dX6_count_14 : decode cX6_count 14 = .ok (.iconst 1, 1) := by decide +kernel
theorem dX6_count_15 : decode cX6_count 15 = .ok (.invokevirtual 94, 3) := by decide +kernel
theorem dX6_count_18 : decode cX6_count 18 = .ok (.ifCond .ne 5, 3) := by decide +kernel
theorem dX6_count_21 : decode cX6_count 21 = .ok (.iconst 0, 1) := by decide +kernel
theorem dX6_count_22 : decode cX6_count 22 = .ok (.ireturn, 1) := by decide +kernel
theorem dX6_count_23 : decode cX6_count 23 = .ok (.iconst 0, 1) := by decide +kernel
theorem dX6_count_24 : decode cX6_count 24 = .ok (.istore_n 2, 1) := by decide +kernel
theorem dX6_count_25 : decode cX6_count 25 = .ok (.iconst 0, 1) := by decide +kernel
theorem dX6_count_26 : decode cX6_count 26 = .ok (.istore_n 3, 1) := by decide +kernel
theorem dX6_count_27 : decode cX6_count 27 = .ok (.iload_n 3, 1) := by decide +kernel
theorem dX6_count_28 : decode cX6_count 28 = .ok (.aload_n 0, 1) := by decide +kernel
theorem dX6_count_29 : decode cX6_count 29 = .ok (.getfield 137, 3) := by decide +kernel
theorem dX6_count_32 : decode cX6_count 32 = .ok (.if_icmp .ge 27, 3) := by decide +kernel
theorem dX6_count_35 : decode cX6_count 35 = .ok (.iload_n 2, 1) := by decide +kernel
theorem dX6_count_36 : decode cX6_count 36 = .ok (.aload_n 0, 1) := by decide +kernel
theorem dX6_count_37 : decode cX6_count 37 = .ok (.getfield 81, 3) := by decide +kernel
theorem dX6_count_40 : decode cX6_count 40 = .ok (.iload_n 3, 1) := by decide +kernel
theorem dX6_count_41 : decode cX6_count 41 = .ok (.iaload, 1) := by decide +kernel
theorem dX6_count_42 : decode cX6_count 42 = .ok (.iload_n 1, 1) := by decide +kernel
theorem dX6_count_43 : decode cX6_count 43 = .ok (.if_icmp .ne 7, 3) := by decide +kernel
theorem dX6_count_46 : decode cX6_count 46 = .ok (.iconst 1, 1) := by decide +kernel
theorem dX6_count_47 : decode cX6_count 47 = .ok (.goto 4, 3) := by decide +kernel
theorem dX6_count_50 : decode cX6_count 50 = .ok (.iconst 0, 1) := by decide +kernel
theorem dX6_count_51 : decode cX6_count 51 = .ok (.iadd, 1) := by decide +kernel
theorem dX6_count_52 : decode cX6_count 52 = .ok (.istore_n 2, 1) := by decide +kernel
theorem dX6_count_53 : decode cX6_count 53 = .ok (.iinc 3 1, 3) := by decide +kernel
theorem dX6_count_56 : decode cX6_count 56 = .ok (.goto (-29), 3) := by decide +kernel
theorem dX6_count_59 : decode cX6_count 59 = .ok (.iload_n 2, 1) := by decide +kernel
theorem dX6_count_60 : decode cX6_count 60 = .ok (.ireturn, 1) := by decide +kernel
set_option maxRecDepth 20000 in
theorem ggX6_targetsOf_X6_isMessage : GoodIn wsX6_targetsOf wsX6_isMessage := goodIn_r _ [6, 7, 8, 9, 10, 5, 11, 12, 13, 14, 15, 16, 17, 18, 19, 20, 21, 22, 23, 24, 25, 26, 27, 28, 29, 30, 31, 32, 33, 34, 35, 36, 37, 38, 39, 40, 41, 42, 43, 44, 45, 46] (by decide +kernel) (by decide +kernel)
set_option maxRecDepth 20000 in
theorem gX6_targetsOf_X6_isMessage : GoodIn wsX6_targetsOf (wsV RX6 177 RX6 yX6_isMessage wsX6_isMessage) := goodIn_app (goodIn_of _ (by decide +kernel)) ggX6_targetsOf_X6_isMessage
theorem dX6_targetsOf_0 : decode cX6_targetsOf 0 = .ok (.aload_n 0, 1) := by decide +kernel
theorem dX6_targetsOf_1 : decode cX6_targetsOf 1 = .ok (.iload_n 1, 1) := by decide +kernel
theorem dX6_targetsOf_2 : decode cX6_targetsOf 2 = .ok (.invokevirtual 177, 3) := by decide +kernel
theorem dX6_targetsOf_5 : decode cX6_targetsOf 5 = .ok (.ifCond .eq 12, 3) := by decide +kernel
theorem dX6_targetsOf_8 : decode cX6_targetsOf 8 = .ok (.aload_n 0, 1) := by decide +kernel
theorem dX6_targetsOf_9 : decode cX6_targetsOf 9 = .ok (.getfield 84, 3) := by decide +kernel
theorem dX6_targetsOf_12 : decode cX6_targetsOf 12 = .ok (.iload_n 1, 1) := by decide +kernel
theorem dX6_targetsOf_13 : decode cX6_targetsOf 13 = .ok (.iaload, 1) := by decide +kernel
theorem dX6_targetsOf_14 : decode cX6_targetsOf 14 = .ok (.goto 4, 3) := by decide +kernel
theorem dX6_targetsOf_17 : decode cX6_targetsOf 17 = .ok (.iconst 0, 1) := by decide +kernel
theorem dX6_targetsOf_18 : decode cX6_targetsOf 18 = .ok (.ireturn, 1) := by decide +kernel

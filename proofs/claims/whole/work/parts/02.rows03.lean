theorem dX8_takes_8 : decode cX8_takes 8 = .ok (.aload_n 0, 1) := by decide +kernel
theorem dX8_takes_9 : decode cX8_takes 9 = .ok (.aload_n 0, 1) := by decide +kernel
theorem dX8_takes_10 : decode cX8_takes 10 = .ok (.getfield 88, 3) := by decide +kernel
theorem dX8_takes_13 : decode cX8_takes 13 = .ok (.invokevirtual 91, 3) := by decide +kernel
theorem dX8_takes_16 : decode cX8_takes 16 = .ok (.bipush 32, 2) := by decide +kernel
theorem dX8_takes_18 : decode cX8_takes 18 = .ok (.if_icmp .ne 16, 3) := by decide +kernel
theorem dX8_takes_21 : decode cX8_takes 21 = .ok (.aload_n 0, 1) := by decide +kernel
theorem dX8_takes_22 : decode cX8_takes 22 = .ok (.dup, 1) := by decide +kernel
theorem dX8_takes_23 : decode cX8_takes 23 = .ok (.getfield 88, 3) := by decide +kernel
theorem dX8_takes_26 : decode cX8_takes 26 = .ok (.iconst 1, 1) := by decide +kernel
theorem dX8_takes_27 : decode cX8_takes 27 = .ok (.iadd, 1) := by decide +kernel
theorem dX8_takes_28 : decode cX8_takes 28 = .ok (.putfield 88, 3) := by decide +kernel
theorem dX8_takes_31 : decode cX8_takes 31 = .ok (.goto (-23), 3) := by decide +kernel
theorem dX8_takes_34 : decode cX8_takes 34 = .ok (.aload_n 0, 1) := by decide +kernel
theorem dX8_takes_35 : decode cX8_takes 35 = .ok (.aload_n 0, 1) := by decide +kernel
theorem dX8_takes_36 : decode cX8_takes 36 = .ok (.getfield 88, 3) := by decide +kernel
theorem dX8_takes_39 : decode cX8_takes 39 = .ok (.putfield 82, 3) := by decide +kernel
theorem dX8_takes_42 : decode cX8_takes 42 = .ok (.aload_n 0, 1) := by decide +kernel
theorem dX8_takes_43 : decode cX8_takes 43 = .ok (.aload_n 0, 1) := by decide +kernel
theorem dX8_takes_44 : decode cX8_takes 44 = .ok (.getfield 88, 3) := by decide +kernel
theorem dX8_takes_47 : decode cX8_takes 47 = .ok (.invokevirtual 91, 3) := by decide +kernel
theorem dX8_takes_50 : decode cX8_takes 50 = .ok (.istore_n 1, 1) := by decide +kernel
theorem dX8_takes_51 : decode cX8_takes 51 = .ok (.iload_n 1, 1) := by decide +kernel
theorem dX8_takes_52 : decode cX8_takes 52 = .ok (.ifCond .ge 11, 3) := by decide +kernel
theorem dX8_takes_55 : decode cX8_takes 55 = .ok (.aload_n 0, 1) := by decide +kernel
theorem dX8_takes_56 : decode cX8_takes 56 = .ok (.iconst 0, 1) := by decide +kernel
theorem dX8_takes_57 : decode cX8_takes 57 = .ok (.putfield 103, 3) := by decide +kernel
theorem dX8_takes_60 : decode cX8_takes 60 = .ok (.goto 214, 3) := by decide +kernel
theorem dX8_takes_63 : decode cX8_takes 63 = .ok (.iload_n 1, 1) := by decide +kernel
theorem dX8_takes_64 : decode cX8_takes 64 = .ok (.i2l, 1) := by decide +kernel
theorem dX8_takes_65 : decode cX8_takes 65 = .ok (.ldc2_w 106, 3) := by decide +kernel
theorem dX8_takes_68 : decode cX8_takes 68 = .ok (.ldc2_w 108, 3) := by decide +kernel
theorem dX8_takes_71 : decode cX8_takes 71 = .ok (.invokestatic 72, 3) := by decide +kernel
theorem dX8_takes_74 : decode cX8_takes 74 = .ok (.ifCond .eq 42, 3) := by decide +kernel
theorem dX8_takes_77 : decode cX8_takes 77 = .ok (.aload_n 0, 1) := by decide +kernel
theorem dX8_takes_78 : decode cX8_takes 78 = .ok (.iconst 1, 1) := by decide +kernel
theorem dX8_takes_79 : decode cX8_takes 79 = .ok (.putfield 103, 3) := by decide +kernel
theorem dX8_takes_82 : decode cX8_takes 82 = .ok (.aload_n 0, 1) := by decide +kernel
theorem dX8_takes_83 : decode cX8_takes 83 = .ok (.aload_n 0, 1) := by decide +kernel
theorem dX8_takes_84 : decode cX8_takes 84 = .ok (.getfield 88, 3) := by decide +kernel
theorem dX8_takes_87 : decode cX8_takes 87 = .ok (.invokevirtual 91, 3) := by decide +kernel
theorem dX8_takes_90 : decode cX8_takes 90 = .ok (.i2l, 1) := by decide +kernel
theorem dX8_takes_91 : decode cX8_takes 91 = .ok (.ldc2_w 106, 3) := by decide +kernel
theorem dX8_takes_94 : decode cX8_takes 94 = .ok (.ldc2_w 108, 3) := by decide +kernel
theorem dX8_takes_97 : decode cX8_takes 97 = .ok (.invokestatic 72, 3) := by decide +kernel
theorem dX8_takes_100 : decode cX8_takes 100 = .ok (.ifCond .eq 174, 3) := by decide +kernel
theorem dX8_takes_103 : decode cX8_takes 103 = .ok (.aload_n 0, 1) := by decide +kernel
theorem dX8_takes_104 : decode cX8_takes 104 = .ok (.dup, 1) := by decide +kernel
theorem dX8_takes_105 : decode cX8_takes 105 = .ok (.getfield 88, 3) := by decide +kernel
theorem dX8_takes_108 : decode cX8_takes 108 = .ok (.iconst 1, 1) := by decide +kernel
theorem dX8_takes_109 : decode cX8_takes 109 = .ok (.iadd, 1) := by decide +kernel
theorem dX8_takes_110 : decode cX8_takes 110 = .ok (.putfield 88, 3) := by decide +kernel
theorem dX8_takes_113 : decode cX8_takes 113 = .ok (.goto (-31), 3) := by decide +kernel
theorem dX8_takes_116 : decode cX8_takes 116 = .ok (.iload_n 1, 1) := by decide +kernel
theorem dX8_takes_117 : decode cX8_takes 117 = .ok (.i2l, 1) := by decide +kernel
theorem dX8_takes_118 : decode cX8_takes 118 = .ok (.ldc2_w 110, 3) := by decide +kernel
theorem dX8_takes_121 : decode cX8_takes 121 = .ok (.ldc2_w 112, 3) := by decide +kernel
theorem dX8_takes_124 : decode cX8_takes 124 = .ok (.invokestatic 72, 3) := by decide +kernel
theorem dX8_takes_127 : decode cX8_takes 127 = .ok (.ifCond .eq 116, 3) := by decide +kernel
theorem dX8_takes_130 : decode cX8_takes 130 = .ok (.aload_n 0, 1) := by decide +kernel
theorem dX8_takes_131 : decode cX8_takes 131 = .ok (.iconst 2, 1) := by decide +kernel
theorem dX8_takes_132 : decode cX8_takes 132 = .ok (.putfield 103, 3) := by decide +kernel
theorem dX8_takes_135 : decode cX8_takes 135 = .ok (.aload_n 0, 1) := by decide +kernel
theorem dX8_takes_136 : decode cX8_takes 136 = .ok (.iconst 0, 1) := by decide +kernel
theorem dX8_takes_137 : decode cX8_takes 137 = .ok (.putfield 114, 3) := by decide +kernel
theorem dX8_takes_140 : decode cX8_takes 140 = .ok (.aload_n 0, 1) := by decide +kernel
theorem dX8_takes_141 : decode cX8_takes 141 = .ok (.aload_n 0, 1) := by decide +kernel
theorem dX8_takes_142 : decode cX8_takes 142 = .ok (.getfield 88, 3) := by decide +kernel
theorem dX8_takes_145 : decode cX8_takes 145 = .ok (.invokevirtual 91, 3) := by decide +kernel
theorem dX8_takes_148 : decode cX8_takes 148 = .ok (.i2l, 1) := by decide +kernel
theorem dX8_takes_149 : decode cX8_takes 149 = .ok (.ldc2_w 110, 3) := by decide +kernel
theorem dX8_takes_152 : decode cX8_takes 152 = .ok (.ldc2_w 112, 3) := by decide +kernel
theorem dX8_takes_155 : decode cX8_takes 155 = .ok (.invokestatic 72, 3) := by decide +kernel
theorem dX8_takes_158 : decode cX8_takes 158 = .ok (.ifCond .eq 59, 3) := by decide +kernel
theorem dX8_takes_161 : decode cX8_takes 161 = .ok (.aload_n 0, 1) := by decide +kernel
theorem dX8_takes_162 : decode cX8_takes 162 = .ok (.aload_n 0, 1) := by decide +kernel
theorem dX8_takes_163 : decode cX8_takes 163 = .ok (.getfield 88, 3) := by decide +kernel
theorem dX8_takes_166 : decode cX8_takes 166 = .ok (.aload_n 0, 1) := by decide +kernel
theorem dX8_takes_167 : decode cX8_takes 167 = .ok (.getfield 82, 3) := by decide +kernel
theorem dX8_takes_170 : decode cX8_takes 170 = .ok (.isub, 1) := by decide +kernel
theorem dX8_takes_171 : decode cX8_takes 171 = .ok (.iconst 2, 1) := by decide +kernel
theorem dX8_takes_172 : decode cX8_takes 172 = .ok (.if_icmp .ge 25, 3) := by decide +kernel
theorem dX8_takes_175 : decode cX8_takes 175 = .ok (.bipush 10, 2) := by decide +kernel
theorem dX8_takes_177 : decode cX8_takes 177 = .ok (.aload_n 0, 1) := by decide +kernel
theorem dX8_takes_178 : decode cX8_takes 178 = .ok (.getfield 114, 3) := by decide +kernel
theorem dX8_takes_181 : decode cX8_takes 181 = .ok (.imul, 1) := by decide +kernel
theorem dX8_takes_182 : decode cX8_takes 182 = .ok (.aload_n 0, 1) := by decide +kernel
theorem dX8_takes_183 : decode cX8_takes 183 = .ok (.aload_n 0, 1) := by decide +kernel
theorem dX8_takes_184 : decode cX8_takes 184 = .ok (.getfield 88, 3) := by decide +kernel
theorem dX8_takes_187 : decode cX8_takes 187 = .ok (.invokevirtual 91, 3) := by decide +kernel
theorem dX8_takes_190 : decode cX8_takes 190 = .ok (.iadd, 1) := by decide +kernel
theorem dX8_takes_191 : decode cX8_takes 191 = .ok (.bipush 48, 2) := by decide +kernel
theorem dX8_takes_193 : decode cX8_takes 193 = .ok (.isub, 1) := by decide +kernel
theorem dX8_takes_194 : decode cX8_takes 194 = .ok (.goto 7, 3) := by decide +kernel
theorem dX8_takes_197 : decode cX8_takes 197 = .ok (.aload_n 0, 1) := by decide +kernel
theorem dX8_takes_198 : decode cX8_takes 198 = .ok (.getfield 114, 3) := by decide +kernel
theorem dX8_takes_201 : decode cX8_takes 201 = .ok (.putfield 114, 3) := by decide +kernel
theorem dX8_takes_204 : decode cX8_takes 204 = .ok (.aload_n 0, 1) := by decide +kernel
theorem dX8_takes_205 : decode cX8_takes 205 = .ok (.dup, 1) := by decide +kernel
theorem dX8_takes_206 : decode cX8_takes 206 = .ok (.getfield 88, 3) := by decide +kernel
theorem dX8_takes_209 : decode cX8_takes 209 = .ok (.iconst 1, 1) := by decide +kernel
theorem dX8_takes_210 : decode cX8_takes 210 = .ok (.iadd, 1) := by decide +kernel
theorem dX8_takes_211 : decode cX8_takes 211 = .ok (.putfield 88, 3) := by decide +kernel
theorem dX8_takes_214 : decode cX8_takes 214 = .ok (.goto (-74), 3) := by decide +kernel
theorem dX8_takes_217 : decode cX8_takes 217 = .ok (.aload_n 0, 1) := by decide +kernel
theorem dX8_takes_218 : decode cX8_takes 218 = .ok (.aload_n 0, 1) := by decide +kernel
theorem dX8_takes_219 : decode cX8_takes 219 = .ok (.getfield 88, 3) := by decide +kernel
theorem dX8_takes_222 : decode cX8_takes 222 = .ok (.aload_n 0, 1) := by decide +kernel
theorem dX8_takes_223 : decode cX8_takes 223 = .ok (.getfield 82, 3) := by decide +kernel
theorem dX8_takes_226 : decode cX8_takes 226 = .ok (.isub, 1) := by decide +kernel
theorem dX8_takes_227 : decode cX8_takes 227 = .ok (.iconst 2, 1) := by decide +kernel
theorem dX8_takes_228 : decode cX8_takes 228 = .ok (.if_icmp .gt 7, 3) := by decide +kernel
theorem dX8_takes_231 : decode cX8_takes 231 = .ok (.iconst 1, 1) := by decide +kernel
theorem dX8_takes_232 : decode cX8_takes 232 = .ok (.goto 4, 3) := by decide +kernel
theorem dX8_takes_235 : decode cX8_takes 235 = .ok (.iconst 0, 1) := by decide +kernel
theorem dX8_takes_236 : decode cX8_takes 236 = .ok (.iconst 1, 1) := by decide +kernel
theorem dX8_takes_237 : decode cX8_takes 237 = .ok (.invokevirtual 117, 3) := by decide +kernel
theorem dX8_takes_240 : decode cX8_takes 240 = .ok (.goto 34, 3) := by decide +kernel
theorem dX8_takes_243 : decode cX8_takes 243 = .ok (.aload_n 0, 1) := by decide +kernel
theorem dX8_takes_244 : decode cX8_takes 244 = .ok (.iconst 3, 1) := by decide +kernel
theorem dX8_takes_245 : decode cX8_takes 245 = .ok (.putfield 103, 3) := by decide +kernel
theorem dX8_takes_248 : decode cX8_takes 248 = .ok (.aload_n 0, 1) := by decide +kernel
theorem dX8_takes_249 : decode cX8_takes 249 = .ok (.iload_n 1, 1) := by decide +kernel
theorem dX8_takes_250 : decode cX8_takes 250 = .ok (.bipush 59, 2) := by decide +kernel
theorem dX8_takes_252 : decode cX8_takes 252 = .ok (.if_icmp .ne 7, 3) := by decide +kernel
theorem dX8_takes_255 : decode cX8_takes 255 = .ok (.iconst 1, 1) := by decide +kernel
theorem dX8_takes_256 : decode cX8_takes 256 = .ok (.goto 4, 3) := by decide +kernel
theorem dX8_takes_259 : decode cX8_takes 259 = .ok (.iconst 0, 1) := by decide +kernel
theorem dX8_takes_260 : decode cX8_takes 260 = .ok (.iconst 1, 1) := by decide +kernel
theorem dX8_takes_261 : decode cX8_takes 261 = .ok (.invokevirtual 117, 3) := by decide +kernel
theorem dX8_takes_264 : decode cX8_takes 264 = .ok (.aload_n 0, 1) := by decide +kernel
theorem dX8_takes_265 : decode cX8_takes 265 = .ok (.dup, 1) := by decide +kernel
theorem dX8_takes_266 : decode cX8_takes 266 = .ok (.getfield 88, 3) := by decide +kernel
theorem dX8_takes_269 : decode cX8_takes 269 = .ok (.iconst 1, 1) := by decide +kernel
theorem dX8_takes_270 : decode cX8_takes 270 = .ok (.iadd, 1) := by decide +kernel
theorem dX8_takes_271 : decode cX8_takes 271 = .ok (.putfield 88, 3) := by decide +kernel
theorem dX8_takes_274 : decode cX8_takes 274 = .ok (.return_, 1) := by decide +kernel
set_option maxRecDepth 20000 in
theorem ggX8_looked_X8_needs : GoodIn wsX8_looked wsX8_needs := goodIn_r _ [8, 1, 9, 10, 14, 15, 16, 17, 18, 19, 20, 21, 22, 23, 24, 25, 26, 27, 28, 29, 30, 31, 32, 33, 34, 35, 36, 37, 38, 39, 40, 41, 42, 43] (by decide +kernel) (by decide +kernel)
set_option maxRecDepth 20000 in
theorem gX8_looked_X8_needs : GoodIn wsX8_looked (wsV RX8 117 RX8 yX8_needs wsX8_needs) := goodIn_app (goodIn_of _ (by decide +kernel)) ggX8_looked_X8_needs
set_option maxRecDepth 20000 in
theorem ggX8_looked_X8_in : GoodIn wsX8_looked wsX8_in := goodIn_r _ [13] (by decide +kernel) (by decide +kernel)
set_option maxRecDepth 20000 in
theorem gX8_looked_X8_in : GoodIn wsX8_looked (va_wsS RX8 72 yX8_in wsX8_in) := goodIn_app (goodIn_of _ (by decide +kernel)) ggX8_looked_X8_in
theorem dX8_looked_0 : decode cX8_looked 0 = .ok (.aload_n 0, 1) := by decide +kernel
theorem dX8_looked_1 : decode cX8_looked 1 = .ok (.getfield 79, 3) := by decide +kernel
theorem dX8_looked_4 : decode cX8_looked 4 = .ok (.ifCond .ne 21, 3) := by decide +kernel
theorem dX8_looked_7 : decode cX8_looked 7 = .ok (.aload_n 0, 1) := by decide +kernel
theorem dX8_looked_8 : decode cX8_looked 8 = .ok (.aload_n 0, 1) := by decide +kernel
theorem dX8_looked_9 : decode cX8_looked 9 = .ok (.getfield 103, 3) := by decide +kernel
theorem dX8_looked_12 : decode cX8_looked 12 = .ok (.iconst 2, 1) := by decide +kernel
theorem dX8_looked_13 : decode cX8_looked 13 = .ok (.if_icmp .ne 7, 3) := by decide +kernel
theorem dX8_looked_16 : decode cX8_looked 16 = .ok (.iconst 1, 1) := by decide +kernel
theorem dX8_looked_17 : decode cX8_looked 17 = .ok (.goto 4, 3) := by decide +kernel
theorem dX8_looked_20 : decode cX8_looked 20 = .ok (.iconst 0, 1) := by decide +kernel
theorem dX8_looked_21 : decode cX8_looked 21 = .ok (.iconst 2, 1) := by decide +kernel
theorem dX8_looked_22 : decode cX8_looked 22 = .ok (.invokevirtual 117, 3) := by decide +kernel
theorem dX8_looked_25 : decode cX8_looked 25 = .ok (.aload_n 0, 1) := by decide +kernel
theorem dX8_looked_26 : decode cX8_looked 26 = .ok (.getfield 79, 3) := by decide +kernel
theorem dX8_looked_29 : decode cX8_looked 29 = .ok (.ifCond .ne 20, 3) := by decide +kernel
theorem dX8_looked_32 : decode cX8_looked 32 = .ok (.aload_n 0, 1) := by decide +kernel
theorem dX8_looked_33 : decode cX8_looked 33 = .ok (.aload_n 0, 1) := by decide +kernel
theorem dX8_looked_34 : decode cX8_looked 34 = .ok (.getfield 114, 3) := by decide +kernel
theorem dX8_looked_37 : decode cX8_looked 37 = .ok (.i2l, 1) := by decide +kernel
theorem dX8_looked_38 : decode cX8_looked 38 = .ok (.iload_n 1, 1) := by decide +kernel
theorem dX8_looked_39 : decode cX8_looked 39 = .ok (.i2l, 1) := by decide +kernel
theorem dX8_looked_40 : decode cX8_looked 40 = .ok (.iload_n 2, 1) := by decide +kernel
theorem dX8_looked_41 : decode cX8_looked 41 = .ok (.i2l, 1) := by decide +kernel
theorem dX8_looked_42 : decode cX8_looked 42 = .ok (.invokestatic 72, 3) := by decide +kernel
theorem dX8_looked_45 : decode cX8_looked 45 = .ok (.iconst 3, 1) := by decide +kernel
theorem dX8_looked_46 : decode cX8_looked 46 = .ok (.invokevirtual 117, 3) := by decide +kernel
theorem dX8_looked_49 : decode cX8_looked 49 = .ok (.aload_n 0, 1) := by decide +kernel
theorem dX8_looked_50 : decode cX8_looked 50 = .ok (.getfield 79, 3) := by decide +kernel
theorem dX8_looked_53 : decode cX8_looked 53 = .ok (.ifCond .ne 10, 3) := by decide +kernel
theorem dX8_looked_56 : decode cX8_looked 56 = .ok (.aload_n 0, 1) := by decide +kernel
theorem dX8_looked_57 : decode cX8_looked 57 = .ok (.getfield 114, 3) := by decide +kernel
theorem dX8_looked_60 : decode cX8_looked 60 = .ok (.goto 4, 3) := by decide +kernel
theorem dX8_looked_63 : decode cX8_looked 63 = .ok (.iconst 0, 1) := by decide +kernel
theorem dX8_looked_64 : decode cX8_looked 64 = .ok (.ireturn, 1) := by decide +kernel
set_option maxRecDepth 20000 in
theorem ggX8_readNumber_X8_looked : GoodIn wsX8_readNumber wsX8_looked := goodIn_r _ [5, 6, 7, 8, 9, 10, 11, 4, 12, 13, 14, 15, 16, 17, 33, 34, 35, 36, 37, 38, 39, 40, 41, 42, 43, 44, 45, 46, 47, 48, 49, 50, 51, 52, 53, 54, 55, 56, 57, 58, 59, 60, 61, 62] (by decide +kernel) (by decide +kernel)
set_option maxRecDepth 20000 in
theorem gX8_readNumber_X8_looked : GoodIn wsX8_readNumber (wsV RX8 121 RX8 yX8_looked wsX8_looked) := goodIn_app (goodIn_of _ (by decide +kernel)) ggX8_readNumber_X8_looked
set_option maxRecDepth 20000 in
theorem ggX8_readNumber_X8_takes : GoodIn wsX8_readNumber wsX8_takes := goodIn_r _ [21, 6, 22, 13, 7, 23, 24, 25, 26, 8, 27, 28, 29, 4, 30, 31, 32, 15, 16, 17, 9, 10, 11, 12, 14, 33, 34, 35, 36, 37, 38, 39, 40, 41, 42, 43, 44, 45, 46, 47, 48, 49, 50, 51, 52, 53, 54, 55, 56, 57, 58, 59, 60, 61, 62] (by decide +kernel) (by decide +kernel)
set_option maxRecDepth 20000 in
theorem gX8_readNumber_X8_takes : GoodIn wsX8_readNumber (wsV RX8 125 RX8 yX8_takes wsX8_takes) := goodIn_app (goodIn_of _ (by decide +kernel)) ggX8_readNumber_X8_takes
theorem dX8_readNumber_0 : decode cX8_readNumber 0 = .ok (.aload_n 0, 1) := by decide +kernel
theorem dX8_readNumber_1 : decode cX8_readNumber 1 = .ok (.iload_n 1, 1) := by decide +kernel
theorem dX8_readNumber_2 : decode cX8_readNumber 2 = .ok (.iload_n 2, 1) := by decide +kernel
theorem dX8_readNumber_3 : decode cX8_readNumber 3 = .ok (.invokevirtual 121, 3) := by decide +kernel
theorem dX8_readNumber_6 : decode cX8_readNumber 6 = .ok (.istore_n 3, 1) := by decide +kernel
theorem dX8_readNumber_7 : decode cX8_readNumber 7 = .ok (.aload_n 0, 1) := by decide +kernel
theorem dX8_readNumber_8 : decode cX8_readNumber 8 = .ok (.invokevirtual 125, 3) := by decide +kernel
theorem dX8_readNumber_11 : decode cX8_readNumber 11 = .ok (.iload_n 3, 1) := by decide +kernel
theorem dX8_readNumber_12 : decode cX8_readNumber 12 = .ok (.ireturn, 1) := by decide +kernel
set_option maxRecDepth 20000 in
theorem ggX8_readDebt_X8_readNumber : GoodIn wsX8_readDebt wsX8_readNumber := goodIn_r _ [8, 9, 10, 11, 7, 12, 13, 14, 15, 16, 17, 18, 19, 20, 21, 22, 23, 24, 25, 26, 27, 28, 29, 30, 31, 32, 33, 34, 35, 36, 37, 38, 39, 40, 41, 42, 43, 44, 45, 46, 47, 48, 49, 50, 51, 52, 53, 54, 55, 56, 57, 58, 59, 60, 61, 62, 63, 64, 65, 66, 67, 68, 69] (by decide +kernel) (by decide +kernel)
set_option maxRecDepth 20000 in
theorem gX8_readDebt_X8_readNumber : GoodIn wsX8_readDebt (wsV RX8 128 RX8 yX8_readNumber wsX8_readNumber) := goodIn_app (goodIn_of _ (by decide +kernel)) ggX8_readDebt_X8_readNumber
set_option maxRecDepth 20000 in
theorem ggX8_readDebt_X8_looked : GoodIn wsX8_readDebt wsX8_looked := goodIn_r _ [12, 13, 14, 15, 16, 17, 18, 7, 19, 20, 21, 22, 23, 24, 40, 41, 42, 43, 44, 45, 46, 47, 48, 49, 50, 51, 52, 53, 54, 55, 56, 57, 58, 59, 60, 61, 62, 63, 64, 65, 66, 67, 68, 69] (by decide +kernel) (by decide +kernel)
set_option maxRecDepth 20000 in
theorem gX8_readDebt_X8_looked : GoodIn wsX8_readDebt (wsV RX8 121 RX8 yX8_looked wsX8_looked) := goodIn_app (goodIn_of _ (by decide +kernel)) ggX8_readDebt_X8_looked
set_option maxRecDepth 20000 in
theorem ggX8_readDebt_X8_needs : GoodIn wsX8_readDebt wsX8_needs := goodIn_r _ [19, 13, 20, 21, 40, 41, 42, 43, 44, 45, 46, 47, 48, 49, 50, 51, 52, 53, 54, 55, 56, 57, 58, 59, 60, 61, 62, 63, 64, 65, 66, 67, 68, 69] (by decide +kernel) (by decide +kernel)
set_option maxRecDepth 20000 in
theorem gX8_readDebt_X8_needs : GoodIn wsX8_readDebt (wsV RX8 117 RX8 yX8_needs wsX8_needs) := goodIn_app (goodIn_of _ (by decide +kernel)) ggX8_readDebt_X8_needs
set_option maxRecDepth 20000 in
theorem ggX8_readDebt_X8_takes : GoodIn wsX8_readDebt wsX8_takes := goodIn_r _ [28, 13, 29, 20, 14, 30, 31, 32, 33, 15, 34, 35, 36, 7, 37, 38, 39, 22, 23, 24, 16, 17, 18, 19, 21, 40, 41, 42, 43, 44, 45, 46, 47, 48, 49, 50, 51, 52, 53, 54, 55, 56, 57, 58, 59, 60, 61, 62, 63, 64, 65, 66, 67, 68, 69] (by decide +kernel) (by decide +kernel)
set_option maxRecDepth 20000 in
theorem gX8_readDebt_X8_takes : GoodIn wsX8_readDebt (wsV RX8 125 RX8 yX8_takes wsX8_takes) := goodIn_app (goodIn_of _ (by decide +kernel)) ggX8_readDebt_X8_takes
theorem dX8_readDebt_0 : decode cX8_readDebt 0 = .ok (.aload_n 0, 1) := by decide +kernel
theorem dX8_readDebt_1 : decode cX8_readDebt 1 = .ok (.iconst 0, 1) := by decide +kernel
theorem dX8_readDebt_2 : decode cX8_readDebt 2 = .ok (.iconst 4, 1) := by decide +kernel
theorem dX8_readDebt_3 : decode cX8_readDebt 3 = .ok (.invokevirtual 128, 3) := by decide +kernel
theorem dX8_readDebt_6 : decode cX8_readDebt 6 = .ok (.istore_n 1, 1) := by decide +kernel
theorem dX8_readDebt_7 : decode cX8_readDebt 7 = .ok (.aload_n 0, 1) := by decide +kernel
theorem dX8_readDebt_8 : decode cX8_readDebt 8 = .ok (.iconst 0, 1) := by decide +kernel
theorem dX8_readDebt_9 : decode cX8_readDebt 9 = .ok (.iconst 4, 1) := by decide +kernel
theorem dX8_readDebt_10 : decode cX8_readDebt 10 = .ok (.invokevirtual 121, 3) := by decide +kernel
theorem dX8_readDebt_13 : decode cX8_readDebt 13 = .ok (.istore_n 2, 1) := by decide +kernel
theorem dX8_readDebt_14 : decode cX8_readDebt 14 = .ok (.aload_n 0, 1) := by decide +kernel
theorem dX8_readDebt_15 : decode cX8_readDebt 15 = .ok (.iload_n 1, 1) := by decide +kernel
theorem dX8_readDebt_16 : decode cX8_readDebt 16 = .ok (.iload_n 2, 1) := by decide +kernel
theorem dX8_readDebt_17 : decode cX8_readDebt 17 = .ok (.if_icmp .eq 7, 3) := by decide +kernel
theorem dX8_readDebt_20 : decode cX8_readDebt 20 = .ok (.iconst 1, 1) := by decide +kernel
theorem dX8_readDebt_21 : decode cX8_readDebt 21 = .ok (.goto 4, 3) := by decide +kernel
theorem dX8_readDebt_24 : decode cX8_readDebt 24 = .ok (.iconst 0, 1) := by decide +kernel
theorem dX8_readDebt_25 : decode cX8_readDebt 25 = .ok (.iconst 3, 1) := by decide +kernel
theorem dX8_readDebt_26 : decode cX8_readDebt 26 = .ok (.invokevirtual 117, 3) := by decide +kernel
theorem dX8_readDebt_29 : decode cX8_readDebt 29 = .ok (.aload_n 0, 1) := by decide +kernel
theorem dX8_readDebt_30 : decode cX8_readDebt 30 = .ok (.aload_n 0, 1) := by decide +kernel
theorem dX8_readDebt_31 : decode cX8_readDebt 31 = .ok (.getfield 61, 3) := by decide +kernel
theorem dX8_readDebt_34 : decode cX8_readDebt 34 = .ok (.iconst 5, 1) := by decide +kernel
theorem dX8_readDebt_35 : decode cX8_readDebt 35 = .ok (.iload_n 1, 1) := by decide +kernel
theorem dX8_readDebt_36 : decode cX8_readDebt 36 = .ok (.imul, 1) := by decide +kernel
theorem dX8_readDebt_37 : decode cX8_readDebt 37 = .ok (.iload_n 2, 1) := by decide +kernel
theorem dX8_readDebt_38 : decode cX8_readDebt 38 = .ok (.iadd, 1) := by decide +kernel
theorem dX8_readDebt_39 : decode cX8_readDebt 39 = .ok (.ishr, 1) := by decide +kernel
theorem dX8_readDebt_40 : decode cX8_readDebt 40 = .ok (.iconst 1, 1) := by decide +kernel
theorem dX8_readDebt_41 : decode cX8_readDebt 41 = .ok (.iand, 1) := by decide +kernel
theorem dX8_readDebt_42 : decode cX8_readDebt 42 = .ok (.ifCond .ne 7, 3) := by decide +kernel
theorem dX8_readDebt_45 : decode cX8_readDebt 45 = .ok (.iconst 1, 1) := by decide +kernel
theorem dX8_readDebt_46 : decode cX8_readDebt 46 = .ok (.goto 4, 3) := by decide +kernel
theorem dX8_readDebt_49 : decode cX8_readDebt 49 = .ok (.iconst 0, 1) := by decide +kernel
theorem dX8_readDebt_50 : decode cX8_readDebt 50 = .ok (.iconst 4, 1) := by decide +kernel
theorem dX8_readDebt_51 : decode cX8_readDebt 51 = .ok (.invokevirtual 117, 3) := by decide +kernel
theorem dX8_readDebt_54 : decode cX8_readDebt 54 = .ok (.aload_n 0, 1) := by decide +kernel
theorem dX8_readDebt_55 : decode cX8_readDebt 55 = .ok (.dup, 1) := by decide +kernel
theorem dX8_readDebt_56 : decode cX8_readDebt 56 = .ok (.getfield 61, 3) := by decide +kernel
theorem dX8_readDebt_59 : decode cX8_readDebt 59 = .ok (.iconst 1, 1) := by decide +kernel
theorem dX8_readDebt_60 : decode cX8_readDebt 60 = .ok (.iconst 5, 1) := by decide +kernel
theorem dX8_readDebt_61 : decode cX8_readDebt 61 = .ok (.iload_n 1, 1) := by decide +kernel
theorem dX8_readDebt_62 : decode cX8_readDebt 62 = .ok (.imul, 1) := by decide +kernel
theorem dX8_readDebt_63 : decode cX8_readDebt 63 = .ok (.iload_n 2, 1) := by decide +kernel
theorem dX8_readDebt_64 : decode cX8_readDebt 64 = .ok (.iadd, 1) := by decide +kernel
theorem dX8_readDebt_65 : decode cX8_readDebt 65 = .ok (.ishl, 1) := by decide +kernel
theorem dX8_readDebt_66 : decode cX8_readDebt 66 = .ok (.ior, 1) := by decide +kernel
theorem dX8_readDebt_67 : decode cX8_readDebt 67 = .ok (.putfield 61, 3) := by decide +kernel
theorem dX8_readDebt_70 : decode cX8_readDebt 70 = .ok (.aload_n 0, 1) := by decide +kernel
theorem dX8_readDebt_71 : decode cX8_readDebt 71 = .ok (.iload_n 1, 1) := by decide +kernel
theorem dX8_readDebt_72 : decode cX8_readDebt 72 = .ok (.aload_n 0, 1) := by decide +kernel
theorem dX8_readDebt_73 : decode cX8_readDebt 73 = .ok (.getfield 64, 3) := by decide +kernel
theorem dX8_readDebt_76 : decode cX8_readDebt 76 = .ok (.if_icmp .le 7, 3) := by decide +kernel
theorem dX8_readDebt_79 : decode cX8_readDebt 79 = .ok (.iload_n 1, 1) := by decide +kernel
theorem dX8_readDebt_80 : decode cX8_readDebt 80 = .ok (.goto 7, 3) := by decide +kernel
theorem dX8_readDebt_83 : decode cX8_readDebt 83 = .ok (.aload_n 0, 1) := by decide +kernel
theorem dX8_readDebt_84 : decode cX8_readDebt 84 = .ok (.getfield 64, 3) := by decide +kernel
theorem dX8_readDebt_87 : decode cX8_readDebt 87 = .ok (.putfield 64, 3) := by decide +kernel
theorem dX8_readDebt_90 : decode cX8_readDebt 90 = .ok (.aload_n 0, 1) := by decide +kernel
theorem dX8_readDebt_91 : decode cX8_readDebt 91 = .ok (.iload_n 2, 1) := by decide +kernel
theorem dX8_readDebt_92 : decode cX8_readDebt 92 = .ok (.aload_n 0, 1) := by decide +kernel
theorem dX8_readDebt_93 : decode cX8_readDebt 93 = .ok (.getfield 64, 3) := by decide +kernel
theorem dX8_readDebt_96 : decode cX8_readDebt 96 = .ok (.if_icmp .le 7, 3) := by decide +kernel
theorem dX8_readDebt_99 : decode cX8_readDebt 99 = .ok (.iload_n 2, 1) := by decide +kernel
theorem dX8_readDebt_100 : decode cX8_readDebt 100 = .ok (.goto 7, 3) := by decide +kernel
theorem dX8_readDebt_103 : decode cX8_readDebt 103 = .ok (.aload_n 0, 1) := by decide +kernel
theorem dX8_readDebt_104 : decode cX8_readDebt 104 = .ok (.getfield 64, 3) := by decide +kernel
theorem dX8_readDebt_107 : decode cX8_readDebt 107 = .ok (.putfield 64, 3) := by decide +kernel
theorem dX8_readDebt_110 : decode cX8_readDebt 110 = .ok (.aload_n 0, 1) := by decide +kernel
theorem dX8_readDebt_111 : decode cX8_readDebt 111 = .ok (.invokevirtual 125, 3) := by decide +kernel
theorem dX8_readDebt_114 : decode cX8_readDebt 114 = .ok (.aload_n 0, 1) := by decide +kernel
theorem dX8_readDebt_115 : decode cX8_readDebt 115 = .ok (.getfield 20, 3) := by decide +kernel
theorem dX8_readDebt_118 : decode cX8_readDebt 118 = .ok (.bipush 15, 2) := by decide +kernel
theorem dX8_readDebt_120 : decode cX8_readDebt 120 = .ok (.iconst 5, 1) := by decide +kernel
theorem dX8_readDebt_121 : decode cX8_readDebt 121 = .ok (.iload_n 1, 1) := by decide +kernel
theorem dX8_readDebt_122 : decode cX8_readDebt 122 = .ok (.imul, 1) := by decide +kernel
theorem dX8_readDebt_123 : decode cX8_readDebt 123 = .ok (.iadd, 1) := by decide +kernel
theorem dX8_readDebt_124 : decode cX8_readDebt 124 = .ok (.iload_n 2, 1) := by decide +kernel
theorem dX8_readDebt_125 : decode cX8_readDebt 125 = .ok (.iadd, 1) := by decide +kernel
theorem dX8_readDebt_126 : decode cX8_readDebt 126 = .ok (.aload_n 0, 1) := by decide +kernel
theorem dX8_readDebt_127 : decode cX8_readDebt 127 = .ok (.iconst 1, 1) := by decide +kernel
theorem dX8_readDebt_128 : decode cX8_readDebt 128 = .ok (.bipush 99, 2) := by decide +kernel
theorem dX8_readDebt_130 : decode cX8_readDebt 130 = .ok (.invokevirtual 128, 3) := by decide +kernel
theorem dX8_readDebt_133 : decode cX8_readDebt 133 = .ok (.iastore, 1) := by decide +kernel
theorem dX8_readDebt_134 : decode cX8_readDebt 134 = .ok (.return_, 1) := by decide +kernel
set_option maxRecDepth 20000 in
theorem ggX8_readLineOf_X8_readDebt : GoodIn wsX8_readLineOf wsX8_readDebt := goodIn_r _ [7, 8, 9, 1, 10, 11, 12, 6, 13, 14, 15, 16, 17, 18, 19, 20, 21, 22, 23, 24, 25, 26, 27, 28, 29, 30, 31, 32, 33, 34, 35, 36, 37, 38, 39, 40, 41, 42, 43, 44, 45, 46, 47, 48, 49, 50, 51, 52, 53, 54, 55, 56, 57, 58, 59, 60, 61, 62, 63, 64, 65, 66, 67, 68, 69, 70, 71, 72, 73, 74] (by decide +kernel) (by decide +kernel)
set_option maxRecDepth 20000 in
theorem gX8_readLineOf_X8_readDebt : GoodIn wsX8_readLineOf (wsV RX8 131 RX8 yX8_readDebt wsX8_readDebt) := goodIn_app (goodIn_of _ (by decide +kernel)) ggX8_readLineOf_X8_readDebt
set_option maxRecDepth 20000 in
theorem ggX8_readLineOf_X8_readNumber : GoodIn wsX8_readLineOf wsX8_readNumber := goodIn_r _ [13, 14, 15, 16, 6, 17, 18, 19, 20, 21, 22, 23, 24, 25, 26, 27, 28, 29, 30, 31, 32, 33, 34, 35, 36, 37, 38, 39, 40, 41, 42, 43, 44, 45, 46, 47, 48, 49, 50, 51, 52, 53, 54, 55, 56, 57, 58, 59, 60, 61, 62, 63, 64, 65, 66, 67, 68, 69, 70, 71, 72, 73, 74] (by decide +kernel) (by decide +kernel)
set_option maxRecDepth 20000 in
theorem gX8_readLineOf_X8_readNumber : GoodIn wsX8_readLineOf (wsV RX8 128 RX8 yX8_readNumber wsX8_readNumber) := goodIn_app (goodIn_of _ (by decide +kernel)) ggX8_readLineOf_X8_readNumber
theorem dX8_readLineOf_0 : decode cX8_readLineOf 0 = .ok (.iload_n 1, 1) := by decide +kernel
theorem dX8_readLineOf_1 : decode cX8_readLineOf 1 = .ok (.lookupswitch 51 #[(4, 27), (5, 34)], 27) := by decide +kernel
theorem dX8_readLineOf_28 : decode cX8_readLineOf 28 = .ok (.aload_n 0, 1) := by decide +kernel
theorem dX8_readLineOf_29 : decode cX8_readLineOf 29 = .ok (.invokevirtual 131, 3) := by decide +kernel
theorem dX8_readLineOf_32 : decode cX8_readLineOf 32 = .ok (.goto 84, 3) := by decide +kernel
theorem dX8_readLineOf_35 : decode cX8_readLineOf 35 = .ok (.aload_n 0, 1) := by decide +kernel
theorem dX8_readLineOf_36 : decode cX8_readLineOf 36 = .ok (.getfield 20, 3) := by decide +kernel
theorem dX8_readLineOf_39 : decode cX8_readLineOf 39 = .ok (.bipush 41, 2) := by decide +kernel
theorem dX8_readLineOf_41 : decode cX8_readLineOf 41 = .ok (.aload_n 0, 1) := by decide +kernel
theorem dX8_readLineOf_42 : decode cX8_readLineOf 42 = .ok (.iconst 0, 1) := by decide +kernel
theorem dX8_readLineOf_43 : decode cX8_readLineOf 43 = .ok (.bipush 9, 2) := by decide +kernel
theorem dX8_readLineOf_45 : decode cX8_readLineOf 45 = .ok (.invokevirtual 128, 3) := by decide +kernel
theorem dX8_readLineOf_48 : decode cX8_readLineOf 48 = .ok (.iastore, 1) := by decide +kernel
theorem dX8_readLineOf_49 : decode cX8_readLineOf 49 = .ok (.goto 67, 3) := by decide +kernel
theorem dX8_readLineOf_52 : decode cX8_readLineOf 52 = .ok (.aload_n 0, 1) := by decide +kernel
theorem dX8_readLineOf_53 : decode cX8_readLineOf 53 = .ok (.getfield 20, 3) := by decide +kernel
theorem dX8_readLineOf_56 : decode cX8_readLineOf 56 = .ok (.iconst 3, 1) := by decide +kernel
theorem dX8_readLineOf_57 : decode cX8_readLineOf 57 = .ok (.aload_n 0, 1) := by decide +kernel
theorem dX8_readLineOf_58 : decode cX8_readLineOf 58 = .ok (.getfield 53, 3) := by decide +kernel
theorem dX8_readLineOf_61 : decode cX8_readLineOf 61 = .ok (.imul, 1) := by decide +kernel
theorem dX8_readLineOf_62 : decode cX8_readLineOf 62 = .ok (.iconst 0, 1) := by decide +kernel
theorem dX8_readLineOf_63 : decode cX8_readLineOf 63 = .ok (.iadd, 1) := by decide +kernel
theorem dX8_readLineOf_64 : decode cX8_readLineOf 64 = .ok (.iload_n 1, 1) := by decide +kernel
theorem dX8_readLineOf_65 : decode cX8_readLineOf 65 = .ok (.iastore, 1) := by decide +kernel
theorem dX8_readLineOf_66 : decode cX8_readLineOf 66 = .ok (.aload_n 0, 1) := by decide +kernel
theorem dX8_readLineOf_67 : decode cX8_readLineOf 67 = .ok (.getfield 20, 3) := by decide +kernel
theorem dX8_readLineOf_70 : decode cX8_readLineOf 70 = .ok (.iconst 3, 1) := by decide +kernel
theorem dX8_readLineOf_71 : decode cX8_readLineOf 71 = .ok (.aload_n 0, 1) := by decide +kernel
theorem dX8_readLineOf_72 : decode cX8_readLineOf 72 = .ok (.getfield 53, 3) := by decide +kernel
theorem dX8_readLineOf_75 : decode cX8_readLineOf 75 = .ok (.imul, 1) := by decide +kernel
theorem dX8_readLineOf_76 : decode cX8_readLineOf 76 = .ok (.iconst 1, 1) := by decide +kernel
theorem dX8_readLineOf_77 : decode cX8_readLineOf 77 = .ok (.iadd, 1) := by decide +kernel
theorem dX8_readLineOf_78 : decode cX8_readLineOf 78 = .ok (.aload_n 0, 1) := by decide +kernel
theorem dX8_readLineOf_79 : decode cX8_readLineOf 79 = .ok (.iconst 0, 1) := by decide +kernel
theorem dX8_readLineOf_80 : decode cX8_readLineOf 80 = .ok (.bipush 99, 2) := by decide +kernel
theorem dX8_readLineOf_82 : decode cX8_readLineOf 82 = .ok (.invokevirtual 128, 3) := by decide +kernel
theorem dX8_readLineOf_85 : decode cX8_readLineOf 85 = .ok (.iastore, 1) := by decide +kernel
theorem dX8_readLineOf_86 : decode cX8_readLineOf 86 = .ok (.aload_n 0, 1) := by decide +kernel
theorem dX8_readLineOf_87 : decode cX8_readLineOf 87 = .ok (.getfield 20, 3) := by decide +kernel
theorem dX8_readLineOf_90 : decode cX8_readLineOf 90 = .ok (.iconst 3, 1) := by decide +kernel
theorem dX8_readLineOf_91 : decode cX8_readLineOf 91 = .ok (.aload_n 0, 1) := by decide +kernel
theorem dX8_readLineOf_92 : decode cX8_readLineOf 92 = .ok (.getfield 53, 3) := by decide +kernel
theorem dX8_readLineOf_95 : decode cX8_readLineOf 95 = .ok (.imul, 1) := by decide +kernel
theorem dX8_readLineOf_96 : decode cX8_readLineOf 96 = .ok (.iconst 2, 1) := by decide +kernel
theorem dX8_readLineOf_97 : decode cX8_readLineOf 97 = .ok (.iadd, 1) := by decide +kernel
theorem dX8_readLineOf_98 : decode cX8_readLineOf 98 = .ok (.aload_n 0, 1) := by decide +kernel
theorem dX8_readLineOf_99 : decode cX8_readLineOf 99 = .ok (.iconst 0, 1) := by decide +kernel
theorem dX8_readLineOf_100 : decode cX8_readLineOf 100 = .ok (.bipush 9, 2) := by decide +kernel
theorem dX8_readLineOf_102 : decode cX8_readLineOf 102 = .ok (.invokevirtual 128, 3) := by decide +kernel
theorem dX8_readLineOf_105 : decode cX8_readLineOf 105 = .ok (.iastore, 1) := by decide +kernel
theorem dX8_readLineOf_106 : decode cX8_readLineOf 106 = .ok (.aload_n 0, 1) := by decide +kernel
theorem dX8_readLineOf_107 : decode cX8_readLineOf 107 = .ok (.dup, 1) := by decide +kernel
theorem dX8_readLineOf_108 : decode cX8_readLineOf 108 = .ok (.getfield 53, 3) := by decide +kernel
theorem dX8_readLineOf_111 : decode cX8_readLineOf 111 = .ok (.iconst 1, 1) := by decide +kernel
theorem dX8_readLineOf_112 : decode cX8_readLineOf 112 = .ok (.iadd, 1) := by decide +kernel
theorem dX8_readLineOf_113 : decode cX8_readLineOf 113 = .ok (.putfield 53, 3) := by decide +kernel
theorem dX8_readLineOf_116 : decode cX8_readLineOf 116 = .ok (.return_, 1) := by decide +kernel
set_option maxRecDepth 20000 in
theorem ggX8_readLine_X8_lineNow : GoodIn wsX8_readLine wsX8_lineNow := goodIn_r _ [9, 10, 11, 12, 8, 13, 14, 15, 16, 17, 18, 19, 20, 21, 22, 23, 24, 25, 62, 63, 64, 65, 66, 67, 68, 69, 70, 71, 72, 73, 74, 75, 76, 77, 78, 79, 80, 81, 82, 83, 84, 85, 86, 87, 88, 89, 90, 91] (by decide +kernel) (by decide +kernel)
set_option maxRecDepth 20000 in
theorem gX8_readLine_X8_lineNow : GoodIn wsX8_readLine (wsV RX8 134 RX8 yX8_lineNow wsX8_lineNow) := goodIn_app (goodIn_of _ (by decide +kernel)) ggX8_readLine_X8_lineNow
set_option maxRecDepth 20000 in
theorem ggX8_readLine_X8_needs : GoodIn wsX8_readLine wsX8_needs := goodIn_r _ [29, 4, 15, 30, 62, 63, 64, 65, 66, 67, 68, 69, 70, 71, 72, 73, 74, 75, 76, 77, 78, 79, 80, 81, 82, 83, 84, 85, 86, 87, 88, 89, 90, 91] (by decide +kernel) (by decide +kernel)
set_option maxRecDepth 20000 in
theorem gX8_readLine_X8_needs : GoodIn wsX8_readLine (wsV RX8 117 RX8 yX8_needs wsX8_needs) := goodIn_app (goodIn_of _ (by decide +kernel)) ggX8_readLine_X8_needs
set_option maxRecDepth 20000 in
theorem ggX8_readLine_X8_takes : GoodIn wsX8_readLine wsX8_takes := goodIn_r _ [34, 4, 14, 15, 1, 35, 36, 37, 38, 39, 16, 17, 18, 8, 19, 20, 21, 40, 41, 42, 26, 27, 28, 29, 30, 62, 63, 64, 65, 66, 67, 68, 69, 70, 71, 72, 73, 74, 75, 76, 77, 78, 79, 80, 81, 82, 83, 84, 85, 86, 87, 88, 89, 90, 91] (by decide +kernel) (by decide +kernel)
set_option maxRecDepth 20000 in
theorem gX8_readLine_X8_takes : GoodIn wsX8_readLine (wsV RX8 125 RX8 yX8_takes wsX8_takes) := goodIn_app (goodIn_of _ (by decide +kernel)) ggX8_readLine_X8_takes
set_option maxRecDepth 20000 in
theorem ggX8_readLine_X8_readLineOf : GoodIn wsX8_readLine wsX8_readLineOf := goodIn_r _ [46, 47, 2, 48, 49, 50, 8, 51, 52, 53, 54, 55, 56, 57, 58, 59, 60, 61, 4, 1, 39, 26, 27, 28, 29, 15, 30, 40, 41, 42, 31, 32, 33, 34, 14, 35, 36, 37, 38, 16, 17, 18, 19, 20, 21, 62, 63, 64, 65, 66, 67, 68, 69, 70, 71, 72, 73, 74, 75, 76, 77, 78, 79, 80, 81, 82, 83, 84, 85, 86, 87, 88, 89, 90, 91] (by decide +kernel) (by decide +kernel)
set_option maxRecDepth 20000 in
theorem gX8_readLine_X8_readLineOf : GoodIn wsX8_readLine (wsV RX8 138 RX8 yX8_readLineOf wsX8_readLineOf) := goodIn_app (goodIn_of _ (by decide +kernel)) ggX8_readLine_X8_readLineOf
theorem dX8_readLine_0 : decode cX8_readLine 0 = .ok (.aload_n 0, 1) := by decide +kernel
theorem dX8_readLine_1 : decode cX8_readLine 1 = .ok (.getfield 103, 3) := by decide +kernel
theorem dX8_readLine_4 : decode cX8_readLine 4 = .ok (.iconst 1, 1) := by decide +kernel
theorem dX8_readLine_5 : decode cX8_readLine 5 = .ok (.if_icmp .ne 10, 3) := by decide +kernel
theorem dX8_readLine_8 : decode cX8_readLine 8 = .ok (.aload_n 0, 1) := by decide +kernel
theorem dX8_readLine_9 : decode cX8_readLine 9 = .ok (.invokevirtual 134, 3) := by decide +kernel
theorem dX8_readLine_12 : decode cX8_readLine 12 = .ok (.goto 5, 3) := by decide +kernel
theorem dX8_readLine_15 : decode cX8_readLine 15 = .ok (.bipush (-4), 2) := by decide +kernel
theorem dX8_readLine_17 : decode cX8_readLine 17 = .ok (.istore_n 1, 1) := by decide +kernel
theorem dX8_readLine_18 : decode cX8_readLine 18 = .ok (.aload_n 0, 1) := by decide +kernel
theorem dX8_readLine_19 : decode cX8_readLine 19 = .ok (.iload_n 1, 1) := by decide +kernel
theorem dX8_readLine_20 : decode cX8_readLine 20 = .ok (.bipush (-4), 2) := by decide +kernel
theorem dX8_readLine_22 : decode cX8_readLine 22 = .ok (.if_icmp .eq 7, 3) := by decide +kernel
theorem dX8_readLine_25 : decode cX8_readLine 25 = .ok (.iconst 1, 1) := by decide +kernel
theorem dX8_readLine_26 : decode cX8_readLine 26 = .ok (.goto 4, 3) := by decide +kernel
theorem dX8_readLine_29 : decode cX8_readLine 29 = .ok (.iconst 0, 1) := by decide +kernel
theorem dX8_readLine_30 : decode cX8_readLine 30 = .ok (.iconst 2, 1) := by decide +kernel
theorem dX8_readLine_31 : decode cX8_readLine 31 = .ok (.invokevirtual 117, 3) := by decide +kernel
theorem dX8_readLine_34 : decode cX8_readLine 34 = .ok (.aload_n 0, 1) := by decide +kernel
theorem dX8_readLine_35 : decode cX8_readLine 35 = .ok (.iload_n 1, 1) := by decide +kernel
theorem dX8_readLine_36 : decode cX8_readLine 36 = .ok (.iconst 4, 1) := by decide +kernel
theorem dX8_readLine_37 : decode cX8_readLine 37 = .ok (.if_icmp .ge 11, 3) := by decide +kernel
theorem dX8_readLine_40 : decode cX8_readLine 40 = .ok (.aload_n 0, 1) := by decide +kernel
theorem dX8_readLine_41 : decode cX8_readLine 41 = .ok (.getfield 53, 3) := by decide +kernel
theorem dX8_readLine_44 : decode cX8_readLine 44 = .ok (.iconst 5, 1) := by decide +kernel
theorem dX8_readLine_45 : decode cX8_readLine 45 = .ok (.if_icmp .ge 7, 3) := by decide +kernel
theorem dX8_readLine_48 : decode cX8_readLine 48 = .ok (.iconst 1, 1) := by decide +kernel
theorem dX8_readLine_49 : decode cX8_readLine 49 = .ok (.goto 4, 3) := by decide +kernel
theorem dX8_readLine_52 : decode cX8_readLine 52 = .ok (.iconst 0, 1) := by decide +kernel
theorem dX8_readLine_53 : decode cX8_readLine 53 = .ok (.iconst 5, 1) := by decide +kernel
theorem dX8_readLine_54 : decode cX8_readLine 54 = .ok (.invokevirtual 117, 3) := by decide +kernel
theorem dX8_readLine_57 : decode cX8_readLine 57 = .ok (.aload_n 0, 1) := by decide +kernel
theorem dX8_readLine_58 : decode cX8_readLine 58 = .ok (.iload_n 1, 1) := by decide +kernel
theorem dX8_readLine_59 : decode cX8_readLine 59 = .ok (.iconst 5, 1) := by decide +kernel
theorem dX8_readLine_60 : decode cX8_readLine 60 = .ok (.if_icmp .ne 10, 3) := by decide +kernel
theorem dX8_readLine_63 : decode cX8_readLine 63 = .ok (.aload_n 0, 1) := by decide +kernel
theorem dX8_readLine_64 : decode cX8_readLine 64 = .ok (.getfield 57, 3) := by decide +kernel
theorem dX8_readLine_67 : decode cX8_readLine 67 = .ok (.ifCond .ne 7, 3) := by decide +kernel
theorem dX8_readLine_70 : decode cX8_readLine 70 = .ok (.iconst 1, 1) := by decide +kernel
theorem dX8_readLine_71 : decode cX8_readLine 71 = .ok (.goto 4, 3) := by decide +kernel
theorem dX8_readLine_74 : decode cX8_readLine 74 = .ok (.iconst 0, 1) := by decide +kernel
theorem dX8_readLine_75 : decode cX8_readLine 75 = .ok (.iconst 4, 1) := by decide +kernel
theorem dX8_readLine_76 : decode cX8_readLine 76 = .ok (.invokevirtual 117, 3) := by decide +kernel
theorem dX8_readLine_79 : decode cX8_readLine 79 = .ok (.aload_n 0, 1) := by decide +kernel
theorem dX8_readLine_80 : decode cX8_readLine 80 = .ok (.aload_n 0, 1) := by decide +kernel
theorem dX8_readLine_81 : decode cX8_readLine 81 = .ok (.getfield 57, 3) := by decide +kernel
theorem dX8_readLine_84 : decode cX8_readLine 84 = .ok (.ifCond .ne 8, 3) := by decide +kernel
theorem dX8_readLine_87 : decode cX8_readLine 87 = .ok (.iload_n 1, 1) := by decide +kernel
theorem dX8_readLine_88 : decode cX8_readLine 88 = .ok (.iconst 5, 1) := by decide +kernel
theorem dX8_readLine_89 : decode cX8_readLine 89 = .ok (.if_icmp .ne 7, 3) := by decide +kernel
theorem dX8_readLine_92 : decode cX8_readLine 92 = .ok (.iconst 1, 1) := by decide +kernel
theorem dX8_readLine_93 : decode cX8_readLine 93 = .ok (.goto 4, 3) := by decide +kernel
theorem dX8_readLine_96 : decode cX8_readLine 96 = .ok (.iconst 0, 1) := by decide +kernel
theorem dX8_readLine_97 : decode cX8_readLine 97 = .ok (.putfield 57, 3) := by decide +kernel
theorem dX8_readLine_100 : decode cX8_readLine 100 = .ok (.aload_n 0, 1) := by decide +kernel
theorem dX8_readLine_101 : decode cX8_readLine 101 = .ok (.invokevirtual 125, 3) := by decide +kernel
theorem dX8_readLine_104 : decode cX8_readLine 104 = .ok (.aload_n 0, 1) := by decide +kernel
theorem dX8_readLine_105 : decode cX8_readLine 105 = .ok (.getfield 79, 3) := by decide +kernel
theorem dX8_readLine_108 : decode cX8_readLine 108 = .ok (.ifCond .le 4, 3) := by decide +kernel
theorem dX8_readLine_111 : decode cX8_readLine 111 = .ok (.return_, 1) := by decide +kernel
theorem dX8_readLine_112 : decode cX8_readLine 112 = .ok (.aload_n 0, 1) := by decide +kernel
theorem dX8_readLine_113 : decode cX8_readLine 113 = .ok (.iload_n 1, 1) := by decide +kernel
theorem dX8_readLine_114 : decode cX8_readLine 114 = .ok (.invokevirtual 138, 3) := by decide +kernel
theorem dX8_readLine_117 : decode cX8_readLine 117 = .ok (.aload_n 0, 1) := by decide +kernel
theorem dX8_readLine_118 : decode cX8_readLine 118 = .ok (.getfield 79, 3) := by decide +kernel
theorem dX8_readLine_121 : decode cX8_readLine 121 = .ok (.ifCond .ne 21, 3) := by decide +kernel
theorem dX8_readLine_124 : decode cX8_readLine 124 = .ok (.aload_n 0, 1) := by decide +kernel
theorem dX8_readLine_125 : decode cX8_readLine 125 = .ok (.aload_n 0, 1) := by decide +kernel
theorem dX8_readLine_126 : decode cX8_readLine 126 = .ok (.getfield 103, 3) := by decide +kernel
theorem dX8_readLine_129 : decode cX8_readLine 129 = .ok (.iconst 3, 1) := by decide +kernel
theorem dX8_readLine_130 : decode cX8_readLine 130 = .ok (.if_icmp .ne 7, 3) := by decide +kernel
theorem dX8_readLine_133 : decode cX8_readLine 133 = .ok (.iconst 1, 1) := by decide +kernel
theorem dX8_readLine_134 : decode cX8_readLine 134 = .ok (.goto 4, 3) := by decide +kernel
theorem dX8_readLine_137 : decode cX8_readLine 137 = .ok (.iconst 0, 1) := by decide +kernel
theorem dX8_readLine_138 : decode cX8_readLine 138 = .ok (.iconst 2, 1) := by decide +kernel
theorem dX8_readLine_139 : decode cX8_readLine 139 = .ok (.invokevirtual 117, 3) := by decide +kernel
theorem dX8_readLine_142 : decode cX8_readLine 142 = .ok (.aload_n 0, 1) := by decide +kernel
theorem dX8_readLine_143 : decode cX8_readLine 143 = .ok (.invokevirtual 125, 3) := by decide +kernel
theorem dX8_readLine_146 : decode cX8_readLine 146 = .ok (.return_, 1) := by decide +kernel
set_option maxRecDepth 20000 in
theorem ggX8_text_X8_firstDraft : GoodIn wsX8_text wsX8_firstDraft := goodIn_r _ [12, 13, 5, 14, 15, 4, 77, 78, 79, 80, 81, 82, 83, 84, 85, 86, 87, 88, 89, 90, 91, 92, 93, 94, 95, 96, 97, 98, 99, 100, 101, 102, 103, 104, 105, 106] (by decide +kernel) (by decide +kernel)
set_option maxRecDepth 20000 in
theorem gX8_text_X8_firstDraft : GoodIn wsX8_text (wsV RX8 47 RX8 yX8_firstDraft wsX8_firstDraft) := goodIn_app (goodIn_of _ (by decide +kernel)) ggX8_text_X8_firstDraft
set_option maxRecDepth 20000 in
theorem ggX8_text_X8_takes : GoodIn wsX8_text wsX8_takes := goodIn_r _ [19, 1, 2, 20, 3, 21, 22, 23, 24, 25, 26, 27, 28, 11, 29, 6, 30, 31, 32, 33, 34, 35, 36, 37, 7, 77, 78, 79, 80, 81, 82, 83, 84, 85, 86, 87, 88, 89, 90, 91, 92, 93, 94, 95, 96, 97, 98, 99, 100, 101, 102, 103, 104, 105, 106] (by decide +kernel) (by decide +kernel)
set_option maxRecDepth 20000 in
theorem gX8_text_X8_takes : GoodIn wsX8_text (wsV RX8 125 RX8 yX8_takes wsX8_takes) := goodIn_app (goodIn_of _ (by decide +kernel)) ggX8_text_X8_takes
set_option maxRecDepth 20000 in
theorem ggX8_text_X8_readLine : GoodIn wsX8_text wsX8_readLine := goodIn_r _ [41, 3, 5, 14, 1, 42, 43, 44, 11, 45, 46, 47, 48, 49, 2, 20, 26, 27, 28, 29, 6, 30, 50, 51, 52, 53, 34, 35, 36, 37, 7, 16, 17, 18, 19, 21, 22, 23, 24, 25, 31, 32, 33, 54, 55, 56, 57, 13, 58, 59, 60, 61, 15, 4, 62, 63, 64, 65, 66, 67, 68, 69, 77, 78, 79, 80, 81, 82, 83, 84, 85, 86, 87, 88, 89, 90, 91, 92, 93, 94, 95, 96, 97, 98, 99, 100, 101, 102, 103, 104, 105, 106] (by decide +kernel) (by decide +kernel)
set_option maxRecDepth 20000 in
theorem gX8_text_X8_readLine : GoodIn wsX8_text (wsV RX8 142 RX8 yX8_readLine wsX8_readLine) := goodIn_app (goodIn_of _ (by decide +kernel)) ggX8_text_X8_readLine
set_option maxRecDepth 20000 in
theorem ggX8_text_X8_needs : GoodIn wsX8_text wsX8_needs := goodIn_r _ [37, 1, 20, 7, 77, 78, 79, 80, 81, 82, 83, 84, 85, 86, 87, 88, 89, 90, 91, 92, 93, 94, 95, 96, 97, 98, 99, 100, 101, 102, 103, 104, 105, 106] (by decide +kernel) (by decide +kernel)
set_option maxRecDepth 20000 in
theorem gX8_text_X8_needs : GoodIn wsX8_text (wsV RX8 117 RX8 yX8_needs wsX8_needs) := goodIn_app (goodIn_of _ (by decide +kernel)) ggX8_text_X8_needs
set_option maxRecDepth 20000 in
theorem ggX8_text_X8_keepDraft : GoodIn wsX8_text wsX8_keepDraft := goodIn_r _ [73, 74, 13, 5, 75, 76, 77, 78, 79, 80, 81, 82, 83, 84, 85, 86, 87, 88, 89, 90, 91, 92, 93, 94, 95, 96, 97, 98, 99, 100, 101, 102, 103, 104, 105, 106] (by decide +kernel) (by decide +kernel)
set_option maxRecDepth 20000 in
theorem gX8_text_X8_keepDraft : GoodIn wsX8_text (wsV RX8 50 RX8 yX8_keepDraft wsX8_keepDraft) := goodIn_app (goodIn_of _ (by decide +kernel)) ggX8_text_X8_keepDraft
theorem dX8_text_0 : decode cX8_text 0 = .ok (.iconst 0, 1) := by decide +kernel
theorem dX8_text_1 : decode cX8_text 1 = .ok (.istore_n 1, 1) := by decide +kernel
theorem dX8_text_2 : decode cX8_text 2 = .ok (.aload_n 0, 1) := by decide +kernel
theorem dX8_text_3 : decode cX8_text 3 = .ok (.iconst 0, 1) := by decide +kernel
theorem dX8_text_4 : decode cX8_text 4 = .ok (.putfield 79, 3) := by decide +kernel
theorem dX8_text_7 : decode cX8_text 7 = .ok (.aload_n 0, 1) := by decide +kernel
theorem dX8_text_8 : decode cX8_text 8 = .ok (.iconst 0, 1) := by decide +kernel
theorem dX8_text_9 : decode cX8_text 9 = .ok (.putfield 88, 3) := by decide +kernel
theorem dX8_text_12 : decode cX8_text 12 = .ok (.aload_n 0, 1) := by decide +kernel
theorem dX8_text_13 : decode cX8_text 13 = .ok (.invokevirtual 47, 3) := by decide +kernel
theorem dX8_text_16 : decode cX8_text 16 = .ok (.aload_n 0, 1) := by decide +kernel
theorem dX8_text_17 : decode cX8_text 17 = .ok (.invokevirtual 125, 3) := by decide +kernel
theorem dX8_text_20 : decode cX8_text 20 = .ok (.aload_n 0, 1) := by decide +kernel
theorem dX8_text_21 : decode cX8_text 21 = .ok (.getfield 79, 3) := by decide +kernel
theorem dX8_text_24 : decode cX8_text 24 = .ok (.ifCond .ne 20, 3) := by decide +kernel
theorem dX8_text_27 : decode cX8_text 27 = .ok (.aload_n 0, 1) := by decide +kernel
theorem dX8_text_28 : decode cX8_text 28 = .ok (.getfield 103, 3) := by decide +kernel
theorem dX8_text_31 : decode cX8_text 31 = .ok (.ifCond .eq 13, 3) := by decide +kernel
theorem dX8_text_34 : decode cX8_text 34 = .ok (.aload_n 0, 1) := by decide +kernel
theorem dX8_text_35 : decode cX8_text 35 = .ok (.invokevirtual 142, 3) := by decide +kernel
theorem dX8_text_38 : decode cX8_text 38 = .ok (.iinc 1 1, 3) := by decide +kernel
theorem dX8_text_41 : decode cX8_text 41 = .ok (.goto (-21), 3) := by decide +kernel
theorem dX8_text_44 : decode cX8_text 44 = .ok (.aload_n 0, 1) := by decide +kernel
theorem dX8_text_45 : decode cX8_text 45 = .ok (.getfield 79, 3) := by decide +kernel
theorem dX8_text_48 : decode cX8_text 48 = .ok (.ifCond .ne 25, 3) := by decide +kernel
theorem dX8_text_51 : decode cX8_text 51 = .ok (.aload_n 0, 1) := by decide +kernel
theorem dX8_text_52 : decode cX8_text 52 = .ok (.aload_n 0, 1) := by decide +kernel
theorem dX8_text_53 : decode cX8_text 53 = .ok (.getfield 64, 3) := by decide +kernel
theorem dX8_text_56 : decode cX8_text 56 = .ok (.aload_n 0, 1) := by decide +kernel
theorem dX8_text_57 : decode cX8_text 57 = .ok (.getfield 53, 3) := by decide +kernel
theorem dX8_text_60 : decode cX8_text 60 = .ok (.if_icmp .ge 7, 3) := by decide +kernel
theorem dX8_text_63 : decode cX8_text 63 = .ok (.iconst 1, 1) := by decide +kernel
theorem dX8_text_64 : decode cX8_text 64 = .ok (.goto 4, 3) := by decide +kernel
theorem dX8_text_67 : decode cX8_text 67 = .ok (.iconst 0, 1) := by decide +kernel
theorem dX8_text_68 : decode cX8_text 68 = .ok (.bipush 6, 2) := by decide +kernel
theorem dX8_text_70 : decode cX8_text 70 = .ok (.invokevirtual 117, 3) := by decide +kernel
theorem dX8_text_73 : decode cX8_text 73 = .ok (.aload_n 0, 1) := by decide +kernel
theorem dX8_text_74 : decode cX8_text 74 = .ok (.iconst 0, 1) := by decide +kernel
theorem dX8_text_75 : decode cX8_text 75 = .ok (.putfield 76, 3) := by decide +kernel
theorem dX8_text_78 : decode cX8_text 78 = .ok (.aload_n 0, 1) := by decide +kernel
theorem dX8_text_79 : decode cX8_text 79 = .ok (.getfield 79, 3) := by decide +kernel
theorem dX8_text_82 : decode cX8_text 82 = .ok (.ifCond .le 11, 3) := by decide +kernel
theorem dX8_text_85 : decode cX8_text 85 = .ok (.bipush (-10), 2) := by decide +kernel
theorem dX8_text_87 : decode cX8_text 87 = .ok (.aload_n 0, 1) := by decide +kernel
theorem dX8_text_88 : decode cX8_text 88 = .ok (.getfield 85, 3) := by decide +kernel
theorem dX8_text_91 : decode cX8_text 91 = .ok (.isub, 1) := by decide +kernel
theorem dX8_text_92 : decode cX8_text 92 = .ok (.ireturn, 1) := by decide +kernel
theorem dX8_text_93 : decode cX8_text 93 = .ok (.aload_n 0, 1) := by decide +kernel
theorem dX8_text_94 : decode cX8_text 94 = .ok (.invokevirtual 50, 3) := by decide +kernel
theorem dX8_text_97 : decode cX8_text 97 = .ok (.iload_n 1, 1) := by decide +kernel
theorem dX8_text_98 : decode cX8_text 98 = .ok (.ireturn, 1) := by decide +kernel
theorem dX8_fault_0 : decode cX8_fault 0 = .ok (.aload_n 0, 1) := by decide +kernel
theorem dX8_fault_1 : decode cX8_fault 1 = .ok (.getfield 79, 3) := by decide +kernel
theorem dX8_fault_4 : decode cX8_fault 4 = .ok (.ireturn, 1) := by decide +kernel
set_option maxRecDepth 20000 in
theorem ggX8_isOne_X8_in : GoodIn wsX8_isOne wsX8_in := goodIn_r _ [5] (by decide +kernel) (by decide +kernel)
set_option maxRecDepth 20000 in
theorem gX8_isOne_X8_in : GoodIn wsX8_isOne (va_wsS RX8 72 yX8_in wsX8_in) := goodIn_app (goodIn_of _ (by decide +kernel)) ggX8_isOne_X8_in
theorem dX8_isOne_0 : decode cX8_isOne 0 = .ok (.iload_n 1, 1) := by decide +kernel
theorem dX8_isOne_1 : decode cX8_isOne 1 = .ok (.i2l, 1) := by decide +kernel
theorem dX8_isOne_2 : decode cX8_isOne 2 = .ok (.lconst 0, 1) := by decide +kernel
theorem dX8_isOne_3 : decode cX8_isOne 3 = .ok (.aload_n 0, 1) := by decide +kernel
theorem dX8_isOne_4 : decode cX8_isOne 4 = .ok (.getfield 67, 3) := by decide +kernel
theorem dX8_isOne_7 : decode cX8_isOne 7 = .ok (.iconst 1, 1) := by decide +kernel
theorem dX8_isOne_8 : decode cX8_isOne 8 = .ok (.isub, 1) := by decide +kernel
theorem dX8_isOne_9 : decode cX8_isOne 9 = .ok (.i2l, 1) := by decide +kernel
theorem dX8_isOne_10 : decode cX8_isOne 10 = .ok (.invokestatic 72, 3) := by decide +kernel
theorem dX8_isOne_13 : decode cX8_isOne 13 = .ok (.ireturn, 1) := by decide +kernel
set_option maxRecDepth 20000 in
theorem ggX8_areTwo_X8_isOne : GoodIn wsX8_areTwo wsX8_isOne := goodIn_r _ [5, 6, 7, 8, 4, 9, 10, 11, 12, 13, 14, 15, 16, 17, 18, 19, 20, 21, 22, 23, 24, 25, 26, 27, 28, 29, 30, 31, 32, 33, 34, 35, 36, 37, 38, 39] (by decide +kernel) (by decide +kernel)
set_option maxRecDepth 20000 in
theorem gX8_areTwo_X8_isOne : GoodIn wsX8_areTwo (wsV RX8 145 RX8 yX8_isOne wsX8_isOne) := goodIn_app (goodIn_of _ (by decide +kernel)) ggX8_areTwo_X8_isOne
theorem dX8_areTwo_0 : decode cX8_areTwo 0 = .ok (.aload_n 0, 1) := by decide +kernel
theorem dX8_areTwo_1 : decode cX8_areTwo 1 = .ok (.iload_n 1, 1) := by decide +kernel
theorem dX8_areTwo_2 : decode cX8_areTwo 2 = .ok (.invokevirtual 145, 3) := by decide +kernel
theorem dX8_areTwo_5 : decode cX8_areTwo 5 = .ok (.ifCond .eq 20, 3) := by decide +kernel
theorem dX8_areTwo_8 : decode cX8_areTwo 8 = .ok (.aload_n 0, 1) := by decide +kernel
theorem dX8_areTwo_9 : decode cX8_areTwo 9 = .ok (.iload_n 2, 1) := by decide +kernel
theorem dX8_areTwo_10 : decode cX8_areTwo 10 = .ok (.invokevirtual 145, 3) := by decide +kernel
theorem dX8_areTwo_13 : decode cX8_areTwo 13 = .ok (.ifCond .eq 12, 3) := by decide +kernel
theorem dX8_areTwo_16 : decode cX8_areTwo 16 = .ok (.iload_n 1, 1) := by decide +kernel
theorem dX8_areTwo_17 : decode cX8_areTwo 17 = .ok (.iload_n 2, 1) := by decide +kernel
theorem dX8_areTwo_18 : decode cX8_areTwo 18 = .ok (.if_icmp .eq 7, 3) := by decide +kernel
theorem dX8_areTwo_21 : decode cX8_areTwo 21 = .ok (.iconst 1, 1) := by decide +kernel
theorem dX8_areTwo_22 : decode cX8_areTwo 22 = .ok (.goto 4, 3) := by decide +kernel
theorem dX8_areTwo_25 : decode cX8_areTwo 25 = .ok (.iconst 0, 1) := by decide +kernel
theorem dX8_areTwo_26 : decode cX8_areTwo 26 = .ok (.ireturn, 1) := by decide +kernel
set_option maxRecDepth 20000 in
theorem ggX8_isPart_X8_in : GoodIn wsX8_isPart wsX8_in := goodIn_r _ [4] (by decide +kernel) (by decide +kernel)
set_option maxRecDepth 20000 in
theorem gX8_isPart_X8_in : GoodIn wsX8_isPart (va_wsS RX8 72 yX8_in wsX8_in) := goodIn_app (goodIn_of _ (by decide +kernel)) ggX8_isPart_X8_in
theorem dX8_isPart_0 : decode cX8_isPart 0 = .ok (.iload_n 0, 1) := by decide +kernel
theorem dX8_isPart_1 : decode cX8_isPart 1 = .ok (.i2l, 1) := by decide +kernel
theorem dX8_isPart_2 : decode cX8_isPart 2 = .ok (.lconst 0, 1) := by decide +kernel
theorem dX8_isPart_3 : decode cX8_isPart 3 = .ok (.lconst 1, 1) := by decide +kernel
theorem dX8_isPart_4 : decode cX8_isPart 4 = .ok (.invokestatic 72, 3) := by decide +kernel
theorem dX8_isPart_7 : decode cX8_isPart 7 = .ok (.ireturn, 1) := by decide +kernel
theorem dX8_starts_0 : decode cX8_starts 0 = .ok (.iconst 0, 1) := by decide +kernel
theorem dX8_starts_1 : decode cX8_starts 1 = .ok (.istore_n 1, 1) := by decide +kernel
theorem dX8_starts_2 : decode cX8_starts 2 = .ok (.iload_n 1, 1) := by decide +kernel
theorem dX8_starts_3 : decode cX8_starts 3 = .ok (.bipush 61, 2) := by decide +kernel
theorem dX8_starts_5 : decode cX8_starts 5 = .ok (.if_icmp .ge 21, 3) := by decide +kernel
theorem dX8_starts_8 : decode cX8_starts 8 = .ok (.aload_n 0, 1) := by decide +kernel
theorem dX8_starts_9 : decode cX8_starts 9 = .ok (.getfield 13, 3) := by decide +kernel
theorem dX8_starts_12 : decode cX8_starts 12 = .ok (.iload_n 1, 1) := by decide +kernel
theorem dX8_starts_13 : decode cX8_starts 13 = .ok (.aload_n 0, 1) := by decide +kernel
theorem dX8_starts_14 : decode cX8_starts 14 = .ok (.getfield 7, 3) := by decide +kernel
theorem dX8_starts_17 : decode cX8_starts 17 = .ok (.iload_n 1, 1) := by decide +kernel
theorem dX8_starts_18 : decode cX8_starts 18 = .ok (.iaload, 1) := by decide +kernel
theorem dX8_starts_19 : decode cX8_starts 19 = .ok (.iastore, 1) := by decide +kernel
theorem dX8_starts_20 : decode cX8_starts 20 = .ok (.iinc 1 1, 3) := by decide +kernel
theorem dX8_starts_23 : decode cX8_starts 23 = .ok (.goto (-21), 3) := by decide +kernel
theorem dX8_starts_26 : decode cX8_starts 26 = .ok (.return_, 1) := by decide +kernel
theorem dX8_settles_0 : decode cX8_settles 0 = .ok (.iconst 0, 1) := by decide +kernel
theorem dX8_settles_1 : decode cX8_settles 1 = .ok (.istore_n 1, 1) := by decide +kernel
theorem dX8_settles_2 : decode cX8_settles 2 = .ok (.iload_n 1, 1) := by decide +kernel
theorem dX8_settles_3 : decode cX8_settles 3 = .ok (.bipush 61, 2) := by decide +kernel
theorem dX8_settles_5 : decode cX8_settles 5 = .ok (.if_icmp .ge 21, 3) := by decide +kernel
theorem dX8_settles_8 : decode cX8_settles 8 = .ok (.aload_n 0, 1) := by decide +kernel
theorem dX8_settles_9 : decode cX8_settles 9 = .ok (.getfield 7, 3) := by decide +kernel
theorem dX8_settles_12 : decode cX8_settles 12 = .ok (.iload_n 1, 1) := by decide +kernel
theorem dX8_settles_13 : decode cX8_settles 13 = .ok (.aload_n 0, 1) := by decide +kernel
theorem dX8_settles_14 : decode cX8_settles 14 = .ok (.getfield 13, 3) := by decide +kernel
theorem dX8_settles_17 : decode cX8_settles 17 = .ok (.iload_n 1, 1) := by decide +kernel
theorem dX8_settles_18 : decode cX8_settles 18 = .ok (.iaload, 1) := by decide +kernel
theorem dX8_settles_19 : decode cX8_settles 19 = .ok (.iastore, 1) := by decide +kernel
theorem dX8_settles_20 : decode cX8_settles 20 = .ok (.iinc 1 1, 3) := by decide +kernel
theorem dX8_settles_23 : decode cX8_settles 23 = .ok (.goto (-21), 3) := by decide +kernel
theorem dX8_settles_26 : decode cX8_settles 26 = .ok (.return_, 1) := by decide +kernel
theorem dX8_of_0 : decode cX8_of 0 = .ok (.aload_n 0, 1) := by decide +kernel
theorem dX8_of_1 : decode cX8_of 1 = .ok (.getfield 13, 3) := by decide +kernel
theorem dX8_of_4 : decode cX8_of 4 = .ok (.iconst 3, 1) := by decide +kernel
theorem dX8_of_5 : decode cX8_of 5 = .ok (.iload_n 1, 1) := by decide +kernel
theorem dX8_of_6 : decode cX8_of 6 = .ok (.imul, 1) := by decide +kernel
theorem dX8_of_7 : decode cX8_of 7 = .ok (.iload_n 2, 1) := by decide +kernel
theorem dX8_of_8 : decode cX8_of 8 = .ok (.iadd, 1) := by decide +kernel
theorem dX8_of_9 : decode cX8_of 9 = .ok (.iaload, 1) := by decide +kernel
theorem dX8_of_10 : decode cX8_of 10 = .ok (.ireturn, 1) := by decide +kernel
theorem dX8_becomesOf_0 : decode cX8_becomesOf 0 = .ok (.aload_n 0, 1) := by decide +kernel
theorem dX8_becomesOf_1 : decode cX8_becomesOf 1 = .ok (.getfield 13, 3) := by decide +kernel
theorem dX8_becomesOf_4 : decode cX8_becomesOf 4 = .ok (.iconst 3, 1) := by decide +kernel
theorem dX8_becomesOf_5 : decode cX8_becomesOf 5 = .ok (.iload_n 1, 1) := by decide +kernel
theorem dX8_becomesOf_6 : decode cX8_becomesOf 6 = .ok (.imul, 1) := by decide +kernel
theorem dX8_becomesOf_7 : decode cX8_becomesOf 7 = .ok (.iload_n 2, 1) := by decide +kernel
theorem dX8_becomesOf_8 : decode cX8_becomesOf 8 = .ok (.iadd, 1) := by decide +kernel
theorem dX8_becomesOf_9 : decode cX8_becomesOf 9 = .ok (.iload_n 3, 1) := by decide +kernel
theorem dX8_becomesOf_10 : decode cX8_becomesOf 10 = .ok (.iastore, 1) := by decide +kernel
theorem dX8_becomesOf_11 : decode cX8_becomesOf 11 = .ok (.return_, 1) := by decide +kernel
theorem dX8_debt_0 : decode cX8_debt 0 = .ok (.aload_n 0, 1) := by decide +kernel
theorem dX8_debt_1 : decode cX8_debt 1 = .ok (.getfield 13, 3) := by decide +kernel
theorem dX8_debt_4 : decode cX8_debt 4 = .ok (.bipush 15, 2) := by decide +kernel
theorem dX8_debt_6 : decode cX8_debt 6 = .ok (.iconst 5, 1) := by decide +kernel
theorem dX8_debt_7 : decode cX8_debt 7 = .ok (.iload_n 1, 1) := by decide +kernel
theorem dX8_debt_8 : decode cX8_debt 8 = .ok (.imul, 1) := by decide +kernel
theorem dX8_debt_9 : decode cX8_debt 9 = .ok (.iadd, 1) := by decide +kernel
theorem dX8_debt_10 : decode cX8_debt 10 = .ok (.iload_n 2, 1) := by decide +kernel
theorem dX8_debt_11 : decode cX8_debt 11 = .ok (.iadd, 1) := by decide +kernel
theorem dX8_debt_12 : decode cX8_debt 12 = .ok (.iaload, 1) := by decide +kernel
theorem dX8_debt_13 : decode cX8_debt 13 = .ok (.ireturn, 1) := by decide +kernel
set_option maxRecDepth 20000 in
theorem ggX8_owesAll_X8_debt : GoodIn wsX8_owesAll wsX8_debt := goodIn_r _ [6, 7, 8, 9, 10, 11, 12, 13, 14, 15, 16, 17, 18, 19, 20, 21, 22, 23, 24, 25, 26, 27, 28, 29, 30, 31, 32, 33, 34, 35, 36, 37] (by decide +kernel) (by decide +kernel)
set_option maxRecDepth 20000 in
theorem gX8_owesAll_X8_debt : GoodIn wsX8_owesAll (wsV RX8 149 RX8 yX8_debt wsX8_debt) := goodIn_app (goodIn_of _ (by decide +kernel)) ggX8_owesAll_X8_debt
theorem dX8_owesAll_0 : decode cX8_owesAll 0 = .ok (.iconst 0, 1) := by decide +kernel
theorem dX8_owesAll_1 : decode cX8_owesAll 1 = .ok (.istore_n 2, 1) := by decide +kernel
theorem dX8_owesAll_2 : decode cX8_owesAll 2 = .ok (.iconst 0, 1) := by decide +kernel
theorem dX8_owesAll_3 : decode cX8_owesAll 3 = .ok (.istore_n 3, 1) := by decide +kernel
theorem dX8_owesAll_4 : decode cX8_owesAll 4 = .ok (.iload_n 3, 1) := by decide +kernel
theorem dX8_owesAll_5 : decode cX8_owesAll 5 = .ok (.aload_n 0, 1) := by decide +kernel
theorem dX8_owesAll_6 : decode cX8_owesAll 6 = .ok (.getfield 67, 3) := by decide +kernel
theorem dX8_owesAll_9 : decode cX8_owesAll 9 = .ok (.if_icmp .ge 18, 3) := by decide +kernel
theorem dX8_owesAll_12 : decode cX8_owesAll 12 = .ok (.iload_n 2, 1) := by decide +kernel
theorem dX8_owesAll_13 : decode cX8_owesAll 13 = .ok (.aload_n 0, 1) := by decide +kernel
theorem dX8_owesAll_14 : decode cX8_owesAll 14 = .ok (.iload_n 1, 1) := by decide +kernel
theorem dX8_owesAll_15 : decode cX8_owesAll 15 = .ok (.iload_n 3, 1) := by decide +kernel
theorem dX8_owesAll_16 : decode cX8_owesAll 16 = .ok (.invokevirtual 149, 3) := by decide +kernel
theorem dX8_owesAll_19 : decode cX8_owesAll 19 = .ok (.iadd, 1) := by decide +kernel
theorem dX8_owesAll_20 : decode cX8_owesAll 20 = .ok (.istore_n 2, 1) := by decide +kernel
theorem dX8_owesAll_21 : decode cX8_owesAll 21 = .ok (.iinc 3 1, 3) := by decide +kernel
theorem dX8_owesAll_24 : decode cX8_owesAll 24 = .ok (.goto (-20), 3) := by decide +kernel
theorem dX8_owesAll_27 : decode cX8_owesAll 27 = .ok (.iload_n 2, 1) := by decide +kernel
theorem dX8_owesAll_28 : decode cX8_owesAll 28 = .ok (.ireturn, 1) := by decide +kernel
set_option maxRecDepth 20000 in
theorem ggX8_isOwed_X8_debt : GoodIn wsX8_isOwed wsX8_debt := goodIn_r _ [6, 7, 8, 9, 10, 11, 12, 13, 14, 15, 16, 17, 18, 19, 20, 21, 22, 23, 24, 25, 26, 27, 28, 29, 30, 31, 32, 33, 34, 35, 36, 37] (by decide +kernel) (by decide +kernel)
set_option maxRecDepth 20000 in
theorem gX8_isOwed_X8_debt : GoodIn wsX8_isOwed (wsV RX8 149 RX8 yX8_debt wsX8_debt) := goodIn_app (goodIn_of _ (by decide +kernel)) ggX8_isOwed_X8_debt
theorem dX8_isOwed_0 : decode cX8_isOwed 0 = .ok (.iconst 0, 1) := by decide +kernel
theorem dX8_isOwed_1 : decode cX8_isOwed 1 = .ok (.istore_n 2, 1) := by decide +kernel
theorem dX8_isOwed_2 : decode cX8_isOwed 2 = .ok (.iconst 0, 1) := by decide +kernel
theorem dX8_isOwed_3 : decode cX8_isOwed 3 = .ok (.istore_n 3, 1) := by decide +kernel
theorem dX8_isOwed_4 : decode cX8_isOwed 4 = .ok (.iload_n 3, 1) := by decide +kernel
theorem dX8_isOwed_5 : decode cX8_isOwed 5 = .ok (.aload_n 0, 1) := by decide +kernel
theorem dX8_isOwed_6 : decode cX8_isOwed 6 = .ok (.getfield 67, 3) := by decide +kernel
theorem dX8_isOwed_9 : decode cX8_isOwed 9 = .ok (.if_icmp .ge 18, 3) := by decide +kernel
theorem dX8_isOwed_12 : decode cX8_isOwed 12 = .ok (.iload_n 2, 1) := by decide +kernel
theorem dX8_isOwed_13 : decode cX8_isOwed 13 = .ok (.aload_n 0, 1) := by decide +kernel
theorem dX8_isOwed_14 : decode cX8_isOwed 14 = .ok (.iload_n 3, 1) := by decide +kernel
theorem dX8_isOwed_15 : decode cX8_isOwed 15 = .ok (.iload_n 1, 1) := by decide +kernel
theorem dX8_isOwed_16 : decode cX8_isOwed 16 = .ok (.invokevirtual 149, 3) := by decide +kernel
theorem dX8_isOwed_19 : decode cX8_isOwed 19 = .ok (.iadd, 1) := by decide +kernel
theorem dX8_isOwed_20 : decode cX8_isOwed 20 = .ok (.istore_n 2, 1) := by decide +kernel
theorem dX8_isOwed_21 : decode cX8_isOwed 21 = .ok (.iinc 3 1, 3) := by decide +kernel
theorem dX8_isOwed_24 : decode cX8_isOwed 24 = .ok (.goto (-20), 3) := by decide +kernel
theorem dX8_isOwed_27 : decode cX8_isOwed 27 = .ok (.iload_n 2, 1) := by decide +kernel
theorem dX8_isOwed_28 : decode cX8_isOwed 28 = .ok (.ireturn, 1) := by decide +kernel
set_option maxRecDepth 20000 in
theorem ggX8_height_X8_isOwed : GoodIn wsX8_height wsX8_isOwed := goodIn_r _ [5, 6, 7, 8, 9, 4, 10, 11, 20, 21, 22, 23, 24, 25, 26, 27, 28, 29, 30, 31, 32, 33, 34, 35, 36, 37, 38, 39, 40, 41, 42, 43, 44, 45, 46, 47, 48, 49] (by decide +kernel) (by decide +kernel)
set_option maxRecDepth 20000 in
theorem gX8_height_X8_isOwed : GoodIn wsX8_height (wsV RX8 152 RX8 yX8_isOwed wsX8_isOwed) := goodIn_app (goodIn_of _ (by decide +kernel)) ggX8_height_X8_isOwed
set_option maxRecDepth 20000 in
theorem ggX8_height_X8_owesAll : GoodIn wsX8_height wsX8_owesAll := goodIn_r _ [15, 6, 7, 8, 9, 4, 10, 11, 20, 21, 22, 23, 24, 25, 26, 27, 28, 29, 30, 31, 32, 33, 34, 35, 36, 37, 38, 39, 40, 41, 42, 43, 44, 45, 46, 47, 48, 49] (by decide +kernel) (by decide +kernel)
set_option maxRecDepth 20000 in
theorem gX8_height_X8_owesAll : GoodIn wsX8_height (wsV RX8 155 RX8 yX8_owesAll wsX8_owesAll) := goodIn_app (goodIn_of _ (by decide +kernel)) ggX8_height_X8_owesAll
set_option maxRecDepth 20000 in
theorem ggX8_height_X8_of : GoodIn wsX8_height wsX8_of := goodIn_r _ [19, 11, 20, 21, 22, 23, 24, 25, 26, 27, 28, 29, 30, 31, 32, 33, 34, 35, 36, 37, 38, 39, 40, 41, 42, 43, 44, 45, 46, 47, 48, 49] (by decide +kernel) (by decide +kernel)
set_option maxRecDepth 20000 in
theorem gX8_height_X8_of : GoodIn wsX8_height (wsV RX8 158 RX8 yX8_of wsX8_of) := goodIn_app (goodIn_of _ (by decide +kernel)) ggX8_height_X8_of
theorem dX8_height_0 : decode cX8_height 0 = .ok (.aload_n 0, 1) := by decide +kernel
theorem dX8_height_1 : decode cX8_height 1 = .ok (.iload_n 1, 1) := by decide +kernel
theorem dX8_height_2 : decode cX8_height 2 = .ok (.invokevirtual 152, 3) := by decide +kernel
theorem dX8_height_5 : decode cX8_height 5 = .ok (.istore_n 2, 1) := by decide +kernel
theorem dX8_height_6 : decode cX8_height 6 = .ok (.iload_n 2, 1) := by decide +kernel
theorem dX8_height_7 : decode cX8_height 7 = .ok (.iconst 1, 1) := by decide +kernel
theorem dX8_height_8 : decode cX8_height 8 = .ok (.iadd, 1) := by decide +kernel
theorem dX8_height_9 : decode cX8_height 9 = .ok (.iconst 2, 1) := by decide +kernel
theorem dX8_height_10 : decode cX8_height 10 = .ok (.idiv, 1) := by decide +kernel
theorem dX8_height_11 : decode cX8_height 11 = .ok (.istore_n 3, 1) := by decide +kernel
theorem dX8_height_12 : decode cX8_height 12 = .ok (.aload_n 0, 1) := by decide +kernel
theorem dX8_height_13 : decode cX8_height 13 = .ok (.iload_n 1, 1) := by decide +kernel
theorem dX8_height_14 : decode cX8_height 14 = .ok (.invokevirtual 155, 3) := by decide +kernel
theorem dX8_height_17 : decode cX8_height 17 = .ok (.ifCond .le 5, 3) := by decide +kernel
theorem dX8_height_20 : decode cX8_height 20 = .ok (.iconst 0, 1) := by decide +kernel
theorem dX8_height_21 : decode cX8_height 21 = .ok (.ireturn, 1) := by decide +kernel
theorem dX8_height_22 : decode cX8_height 22 = .ok (.aload_n 0, 1) := by decide +kernel
theorem dX8_height_23 : decode cX8_height 23 = .ok (.iload_n 1, 1) := by decide +kernel
theorem dX8_height_24 : decode cX8_height 24 = .ok (.iconst 0, 1) := by decide +kernel
theorem dX8_height_25 : decode cX8_height 25 = .ok (.invokevirtual 158, 3) := by decide +kernel
theorem dX8_height_28 : decode cX8_height 28 = .ok (.tableswitch 48 1 3 #[28, 30, 36], 28) := by decide +kernel
theorem dX8_height_56 : decode cX8_height 56 = .ok (.iload_n 3, 1) := by decide +kernel
theorem dX8_height_57 : decode cX8_height 57 = .ok (.ireturn, 1) := by decide +kernel
theorem dX8_height_58 : decode cX8_height 58 = .ok (.iconst 2, 1) := by decide +kernel
theorem dX8_height_59 : decode cX8_height 59 = .ok (.iload_n 2, 1) := by decide +kernel
theorem dX8_height_60 : decode cX8_height 60 = .ok (.imul, 1) := by decide +kernel
theorem dX8_height_61 : decode cX8_height 61 = .ok (.iconst 1, 1) := by decide +kernel
theorem dX8_height_62 : decode cX8_height 62 = .ok (.iadd, 1) := by decide +kernel
theorem dX8_height_63 : decode cX8_height 63 = .ok (.ireturn, 1) := by decide +kernel
theorem dX8_height_64 : decode cX8_height 64 = .ok (.iload_n 3, 1) := by decide +kernel
theorem dX8_height_65 : decode cX8_height 65 = .ok (.ifCond .le 9, 3) := by decide +kernel
theorem dX8_height_68 : decode cX8_height 68 = .ok (.iload_n 3, 1) := by decide +kernel
theorem dX8_height_69 : decode cX8_height 69 = .ok (.iconst 1, 1) := by decide +kernel
theorem dX8_height_70 : decode cX8_height 70 = .ok (.isub, 1) := by decide +kernel
theorem dX8_height_71 : decode cX8_height 71 = .ok (.goto 4, 3) := by decide +kernel
theorem dX8_height_74 : decode cX8_height 74 = .ok (.iconst 0, 1) := by decide +kernel
theorem dX8_height_75 : decode cX8_height 75 = .ok (.ireturn, 1) := by decide +kernel
theorem dX8_height_76 : decode cX8_height 76 = .ok (.iload_n 2, 1) := by decide +kernel
theorem dX8_height_77 : decode cX8_height 77 = .ok (.ireturn, 1) := by decide +kernel
set_option maxRecDepth 20000 in
theorem ggX8_will_X8_of : GoodIn wsX8_will wsX8_of := goodIn_r _ [5, 6, 16, 17, 18, 19, 20, 21, 22, 23, 24, 25, 26, 27, 28, 29, 30, 31, 32, 33, 34, 35, 36, 37, 38, 39, 40, 41, 42, 43, 44, 45] (by decide +kernel) (by decide +kernel)
set_option maxRecDepth 20000 in
theorem gX8_will_X8_of : GoodIn wsX8_will (wsV RX8 158 RX8 yX8_of wsX8_of) := goodIn_app (goodIn_of _ (by decide +kernel)) ggX8_will_X8_of
set_option maxRecDepth 20000 in
theorem ggX8_will_X8_owesAll : GoodIn wsX8_will wsX8_owesAll := goodIn_r _ [10, 11, 12, 13, 14, 4, 15, 6, 16, 17, 18, 19, 20, 21, 22, 23, 24, 25, 26, 27, 28, 29, 30, 31, 32, 33, 34, 35, 36, 37, 38, 39, 40, 41, 42, 43, 44, 45] (by decide +kernel) (by decide +kernel)
set_option maxRecDepth 20000 in
theorem gX8_will_X8_owesAll : GoodIn wsX8_will (wsV RX8 155 RX8 yX8_owesAll wsX8_owesAll) := goodIn_app (goodIn_of _ (by decide +kernel)) ggX8_will_X8_owesAll
theorem dX8_will_0 : decode cX8_will 0 = .ok (.aload_n 0, 1) := by decide +kernel
theorem dX8_will_1 : decode cX8_will 1 = .ok (.iload_n 1, 1) := by decide +kernel
theorem dX8_will_2 : decode cX8_will 2 = .ok (.iconst 1, 1) := by decide +kernel
theorem dX8_will_3 : decode cX8_will 3 = .ok (.invokevirtual 158, 3) := by decide +kernel
theorem dX8_will_6 : decode cX8_will 6 = .ok (.istore_n 2, 1) := by decide +kernel
theorem dX8_will_7 : decode cX8_will 7 = .ok (.aload_n 0, 1) := by decide +kernel
theorem dX8_will_8 : decode cX8_will 8 = .ok (.iload_n 1, 1) := by decide +kernel
theorem dX8_will_9 : decode cX8_will 9 = .ok (.iconst 0, 1) := by decide +kernel
theorem dX8_will_10 : decode cX8_will 10 = .ok (.invokevirtual 158, 3) := by decide +kernel
theorem dX8_will_13 : decode cX8_will 13 = .ok (.tableswitch 53 1 3 #[27, 31, 35], 27) := by decide +kernel
theorem dX8_will_40 : decode cX8_will 40 = .ok (.iload_n 2, 1) := by decide +kernel
theorem dX8_will_41 : decode cX8_will 41 = .ok (.iconst 2, 1) := by decide +kernel
theorem dX8_will_42 : decode cX8_will 42 = .ok (.idiv, 1) := by decide +kernel
theorem dX8_will_43 : decode cX8_will 43 = .ok (.ireturn, 1) := by decide +kernel
theorem dX8_will_44 : decode cX8_will 44 = .ok (.iload_n 2, 1) := by decide +kernel
theorem dX8_will_45 : decode cX8_will 45 = .ok (.iconst 4, 1) := by decide +kernel
theorem dX8_will_46 : decode cX8_will 46 = .ok (.idiv, 1) := by decide +kernel
theorem dX8_will_47 : decode cX8_will 47 = .ok (.ireturn, 1) := by decide +kernel
theorem dX8_will_48 : decode cX8_will 48 = .ok (.aload_n 0, 1) := by decide +kernel
theorem dX8_will_49 : decode cX8_will 49 = .ok (.iload_n 1, 1) := by decide +kernel
theorem dX8_will_50 : decode cX8_will 50 = .ok (.invokevirtual 155, 3) := by decide +kernel
theorem dX8_will_53 : decode cX8_will 53 = .ok (.bipush 10, 2) := by decide +kernel
theorem dX8_will_55 : decode cX8_will 55 = .ok (.if_icmp .lt 9, 3) := by decide +kernel
theorem dX8_will_58 : decode cX8_will 58 = .ok (.iload_n 2, 1) := by decide +kernel
theorem dX8_will_59 : decode cX8_will 59 = .ok (.iconst 2, 1) := by decide +kernel
theorem dX8_will_60 : decode cX8_will 60 = .ok (.idiv, 1) := by decide +kernel
theorem dX8_will_61 : decode cX8_will 61 = .ok (.goto 4, 3) := by decide +kernel
theorem dX8_will_64 : decode cX8_will 64 = .ok (.iconst 0, 1) := by decide +kernel
theorem dX8_will_65 : decode cX8_will 65 = .ok (.ireturn, 1) := by decide +kernel
theorem dX8_will_66 : decode cX8_will 66 = .ok (.iload_n 2, 1) := by decide +kernel
theorem dX8_will_67 : decode cX8_will 67 = .ok (.ireturn, 1) := by decide +kernel
set_option maxRecDepth 20000 in
theorem ggX8_gets_X8_of : GoodIn wsX8_gets wsX8_of := goodIn_r _ [5, 6, 14, 15, 16, 17, 18, 19, 20, 21, 22, 23, 24, 25, 26, 27, 28, 29, 30, 31, 32, 33, 34, 35, 36, 37, 38, 39, 40, 41, 42, 43] (by decide +kernel) (by decide +kernel)
set_option maxRecDepth 20000 in
theorem gX8_gets_X8_of : GoodIn wsX8_gets (wsV RX8 158 RX8 yX8_of wsX8_of) := goodIn_app (goodIn_of _ (by decide +kernel)) ggX8_gets_X8_of
set_option maxRecDepth 20000 in
theorem ggX8_gets_X8_lesser : GoodIn wsX8_gets wsX8_lesser := goodIn_r _ [9] (by decide +kernel) (by decide +kernel)
set_option maxRecDepth 20000 in
theorem gX8_gets_X8_lesser : GoodIn wsX8_gets (va_wsS RX8 161 yX8_lesser wsX8_lesser) := goodIn_app (goodIn_of _ (by decide +kernel)) ggX8_gets_X8_lesser
set_option maxRecDepth 20000 in
theorem ggX8_gets_X8_becomesOf : GoodIn wsX8_gets wsX8_becomesOf := goodIn_r _ [13, 6, 14, 15, 16, 17, 18, 19, 20, 21, 22, 23, 24, 25, 26, 27, 28, 29, 30, 31, 32, 33, 34, 35, 36, 37, 38, 39, 40, 41, 42, 43] (by decide +kernel) (by decide +kernel)
set_option maxRecDepth 20000 in
theorem gX8_gets_X8_becomesOf : GoodIn wsX8_gets (wsV RX8 164 RX8 yX8_becomesOf wsX8_becomesOf) := goodIn_app (goodIn_of _ (by decide +kernel)) ggX8_gets_X8_becomesOf
theorem dX8_gets_0 : decode cX8_gets 0 = .ok (.aload_n 0, 1) := by decide +kernel
theorem dX8_gets_1 : decode cX8_gets 1 = .ok (.iload_n 1, 1) := by decide +kernel
theorem dX8_gets_2 : decode cX8_gets 2 = .ok (.iconst 1, 1) := by decide +kernel
theorem dX8_gets_3 : decode cX8_gets 3 = .ok (.sipush 999, 3) := by decide +kernel
theorem dX8_gets_6 : decode cX8_gets 6 = .ok (.aload_n 0, 1) := by decide +kernel
theorem dX8_gets_7 : decode cX8_gets 7 = .ok (.iload_n 1, 1) := by decide +kernel
theorem dX8_gets_8 : decode cX8_gets 8 = .ok (.iconst 1, 1) := by decide +kernel
theorem dX8_gets_9 : decode cX8_gets 9 = .ok (.invokevirtual 158, 3) := by decide +kernel
theorem dX8_gets_12 : decode cX8_gets 12 = .ok (.iload_n 2, 1) := by decide +kernel
theorem dX8_gets_13 : decode cX8_gets 13 = .ok (.iadd, 1) := by decide +kernel
theorem dX8_gets_14 : decode cX8_gets 14 = .ok (.invokestatic 161, 3) := by decide +kernel
theorem dX8_gets_17 : decode cX8_gets 17 = .ok (.invokevirtual 164, 3) := by decide +kernel
theorem dX8_gets_20 : decode cX8_gets 20 = .ok (.return_, 1) := by decide +kernel
set_option maxRecDepth 20000 in
theorem ggX8_paysTo_X8_of : GoodIn wsX8_paysTo wsX8_of := goodIn_r _ [6, 1, 18, 19, 20, 21, 22, 23, 24, 25, 26, 27, 28, 29, 30, 31, 32, 33, 34, 35, 36, 37, 38, 39, 40, 41, 42, 43, 44, 45, 46, 47] (by decide +kernel) (by decide +kernel)
set_option maxRecDepth 20000 in
theorem gX8_paysTo_X8_of : GoodIn wsX8_paysTo (wsV RX8 158 RX8 yX8_of wsX8_of) := goodIn_app (goodIn_of _ (by decide +kernel)) ggX8_paysTo_X8_of
set_option maxRecDepth 20000 in
theorem ggX8_paysTo_X8_becomesOf : GoodIn wsX8_paysTo wsX8_becomesOf := goodIn_r _ [10, 1, 18, 19, 20, 21, 22, 23, 24, 25, 26, 27, 28, 29, 30, 31, 32, 33, 34, 35, 36, 37, 38, 39, 40, 41, 42, 43, 44, 45, 46, 47] (by decide +kernel) (by decide +kernel)
set_option maxRecDepth 20000 in
theorem gX8_paysTo_X8_becomesOf : GoodIn wsX8_paysTo (wsV RX8 164 RX8 yX8_becomesOf wsX8_becomesOf) := goodIn_app (goodIn_of _ (by decide +kernel)) ggX8_paysTo_X8_becomesOf
set_option maxRecDepth 20000 in
theorem ggX8_paysTo_X8_gets : GoodIn wsX8_paysTo wsX8_gets := goodIn_r _ [14, 2, 3, 4, 5, 6, 1, 15, 16, 17, 7, 8, 9, 10, 18, 19, 20, 21, 22, 23, 24, 25, 26, 27, 28, 29, 30, 31, 32, 33, 34, 35, 36, 37, 38, 39, 40, 41, 42, 43, 44, 45, 46, 47] (by decide +kernel) (by decide +kernel)
set_option maxRecDepth 20000 in
theorem gX8_paysTo_X8_gets : GoodIn wsX8_paysTo (wsV RX8 168 RX8 yX8_gets wsX8_gets) := goodIn_app (goodIn_of _ (by decide +kernel)) ggX8_paysTo_X8_gets
theorem dX8_paysTo_0 : decode cX8_paysTo 0 = .ok (.aload_n 0, 1) := by decide +kernel
theorem dX8_paysTo_1 : decode cX8_paysTo 1 = .ok (.getfield 13, 3) := by decide +kernel
theorem dX8_paysTo_4 : decode cX8_paysTo 4 = .ok (.bipush 15, 2) := by decide +kernel
theorem dX8_paysTo_6 : decode cX8_paysTo 6 = .ok (.iconst 5, 1) := by decide +kernel
theorem dX8_paysTo_7 : decode cX8_paysTo 7 = .ok (.iload_n 1, 1) := by decide +kernel
theorem dX8_paysTo_8 : decode cX8_paysTo 8 = .ok (.imul, 1) := by decide +kernel
theorem dX8_paysTo_9 : decode cX8_paysTo 9 = .ok (.iadd, 1) := by decide +kernel
theorem dX8_paysTo_10 : decode cX8_paysTo 10 = .ok (.iload_n 2, 1) := by decide +kernel
theorem dX8_paysTo_11 : decode cX8_paysTo 11 = .ok (.iadd, 1) := by decide +kernel
theorem dX8_paysTo_12 : decode cX8_paysTo 12 = .ok (.dup2, 1) := by decide +kernel
theorem dX8_paysTo_13 : decode cX8_paysTo 13 = .ok (.iaload, 1) := by decide +kernel
theorem dX8_paysTo_14 : decode cX8_paysTo 14 = .ok (.iload_n 3, 1) := by decide +kernel
theorem dX8_paysTo_15 : decode cX8_paysTo 15 = .ok (.isub, 1) := by decide +kernel
theorem dX8_paysTo_16 : decode cX8_paysTo 16 = .ok (.iastore, 1) := by decide +kernel
theorem dX8_paysTo_17 : decode cX8_paysTo 17 = .ok (.aload_n 0, 1) := by decide +kernel
theorem dX8_paysTo_18 : decode cX8_paysTo 18 = .ok (.iload_n 1, 1) := by decide +kernel
theorem dX8_paysTo_19 : decode cX8_paysTo 19 = .ok (.iconst 1, 1) := by decide +kernel
theorem dX8_paysTo_20 : decode cX8_paysTo 20 = .ok (.aload_n 0, 1) := by decide +kernel
theorem dX8_paysTo_21 : decode cX8_paysTo 21 = .ok (.iload_n 1, 1) := by decide +kernel
theorem dX8_paysTo_22 : decode cX8_paysTo 22 = .ok (.iconst 1, 1) := by decide +kernel
theorem dX8_paysTo_23 : decode cX8_paysTo 23 = .ok (.invokevirtual 158, 3) := by decide +kernel
theorem dX8_paysTo_26 : decode cX8_paysTo 26 = .ok (.iload_n 3, 1) := by decide +kernel
theorem dX8_paysTo_27 : decode cX8_paysTo 27 = .ok (.isub, 1) := by decide +kernel
theorem dX8_paysTo_28 : decode cX8_paysTo 28 = .ok (.invokevirtual 164, 3) := by decide +kernel
theorem dX8_paysTo_31 : decode cX8_paysTo 31 = .ok (.aload_n 0, 1) := by decide +kernel
theorem dX8_paysTo_32 : decode cX8_paysTo 32 = .ok (.iload_n 2, 1) := by decide +kernel
theorem dX8_paysTo_33 : decode cX8_paysTo 33 = .ok (.iload_n 3, 1) := by decide +kernel
theorem dX8_paysTo_34 : decode cX8_paysTo 34 = .ok (.invokevirtual 168, 3) := by decide +kernel
theorem dX8_paysTo_37 : decode cX8_paysTo 37 = .ok (.return_, 1) := by decide +kernel
set_option maxRecDepth 20000 in
theorem ggX8_dayGoes_X8_of : GoodIn wsX8_dayGoes wsX8_of := goodIn_r _ [8, 2, 36, 37, 38, 39, 40, 41, 42, 43, 44, 45, 46, 47, 48, 49, 50, 51, 52, 53, 54, 55, 56, 57, 58, 59, 60, 61, 62, 63, 64, 65] (by decide +kernel) (by decide +kernel)
set_option maxRecDepth 20000 in
theorem gX8_dayGoes_X8_of : GoodIn wsX8_dayGoes (wsV RX8 158 RX8 yX8_of wsX8_of) := goodIn_app (goodIn_of _ (by decide +kernel)) ggX8_dayGoes_X8_of
set_option maxRecDepth 20000 in
theorem ggX8_dayGoes_X8_gets : GoodIn wsX8_dayGoes wsX8_gets := goodIn_r _ [12, 4, 5, 6, 7, 8, 2, 13, 14, 15, 16, 17, 18, 19, 36, 37, 38, 39, 40, 41, 42, 43, 44, 45, 46, 47, 48, 49, 50, 51, 52, 53, 54, 55, 56, 57, 58, 59, 60, 61, 62, 63, 64, 65] (by decide +kernel) (by decide +kernel)
set_option maxRecDepth 20000 in
theorem gX8_dayGoes_X8_gets : GoodIn wsX8_dayGoes (wsV RX8 168 RX8 yX8_gets wsX8_gets) := goodIn_app (goodIn_of _ (by decide +kernel)) ggX8_dayGoes_X8_gets
set_option maxRecDepth 20000 in
theorem ggX8_dayGoes_X8_will : GoodIn wsX8_dayGoes wsX8_will := goodIn_r _ [23, 4, 5, 6, 7, 8, 2, 24, 25, 26, 27, 1, 28, 29, 30, 31, 36, 37, 38, 39, 40, 41, 42, 43, 44, 45, 46, 47, 48, 49, 50, 51, 52, 53, 54, 55, 56, 57, 58, 59, 60, 61, 62, 63, 64, 65] (by decide +kernel) (by decide +kernel)
set_option maxRecDepth 20000 in
theorem gX8_dayGoes_X8_will : GoodIn wsX8_dayGoes (wsV RX8 172 RX8 yX8_will wsX8_will) := goodIn_app (goodIn_of _ (by decide +kernel)) ggX8_dayGoes_X8_will
set_option maxRecDepth 20000 in
theorem ggX8_dayGoes_X8_debt : GoodIn wsX8_dayGoes wsX8_debt := goodIn_r _ [31, 2, 36, 37, 38, 39, 40, 41, 42, 43, 44, 45, 46, 47, 48, 49, 50, 51, 52, 53, 54, 55, 56, 57, 58, 59, 60, 61, 62, 63, 64, 65] (by decide +kernel) (by decide +kernel)
set_option maxRecDepth 20000 in
theorem gX8_dayGoes_X8_debt : GoodIn wsX8_dayGoes (wsV RX8 149 RX8 yX8_debt wsX8_debt) := goodIn_app (goodIn_of _ (by decide +kernel)) ggX8_dayGoes_X8_debt
set_option maxRecDepth 20000 in
theorem ggX8_dayGoes_X8_lesser : GoodIn wsX8_dayGoes wsX8_lesser := goodIn_r _ [15] (by decide +kernel) (by decide +kernel)
set_option maxRecDepth 20000 in
theorem gX8_dayGoes_X8_lesser : GoodIn wsX8_dayGoes (va_wsS RX8 161 yX8_lesser wsX8_lesser) := goodIn_app (goodIn_of _ (by decide +kernel)) ggX8_dayGoes_X8_lesser
set_option maxRecDepth 20000 in
theorem ggX8_dayGoes_X8_paysTo : GoodIn wsX8_dayGoes wsX8_paysTo := goodIn_r _ [35, 2, 4, 5, 6, 7, 8, 16, 17, 18, 19, 9, 10, 11, 12, 13, 14, 15, 36, 37, 38, 39, 40, 41, 42, 43, 44, 45, 46, 47, 48, 49, 50, 51, 52, 53, 54, 55, 56, 57, 58, 59, 60, 61, 62, 63, 64, 65] (by decide +kernel) (by decide +kernel)
set_option maxRecDepth 20000 in
theorem gX8_dayGoes_X8_paysTo : GoodIn wsX8_dayGoes (wsV RX8 175 RX8 yX8_paysTo wsX8_paysTo) := goodIn_app (goodIn_of _ (by decide +kernel)) ggX8_dayGoes_X8_paysTo
theorem dX8_dayGoes_0 : decode cX8_dayGoes 0 = .ok (.iconst 0, 1) := by decide +kernel
theorem dX8_dayGoes_1 : decode cX8_dayGoes 1 = .ok (.istore_n 1, 1) := by decide +kernel
theorem dX8_dayGoes_2 : decode cX8_dayGoes 2 = .ok (.iload_n 1, 1) := by decide +kernel
theorem dX8_dayGoes_3 : decode cX8_dayGoes 3 = .ok (.aload_n 0, 1) := by decide +kernel
theorem dX8_dayGoes_4 : decode cX8_dayGoes 4 = .ok (.getfield 67, 3) := by decide +kernel
theorem dX8_dayGoes_7 : decode cX8_dayGoes 7 = .ok (.if_icmp .ge 38, 3) := by decide +kernel
theorem dX8_dayGoes_10 : decode cX8_dayGoes 10 = .ok (.aload_n 0, 1) := by decide +kernel
theorem dX8_dayGoes_11 : decode cX8_dayGoes 11 = .ok (.iload_n 1, 1) := by decide +kernel
theorem dX8_dayGoes_12 : decode cX8_dayGoes 12 = .ok (.iconst 2, 1) := by decide +kernel
theorem dX8_dayGoes_13 : decode cX8_dayGoes 13 = .ok (.invokevirtual 158, 3) := by decide +kernel
theorem dX8_dayGoes_16 : decode cX8_dayGoes 16 = .ok (.aload_n 0, 1) := by decide +kernel
theorem dX8_dayGoes_17 : decode cX8_dayGoes 17 = .ok (.getfield 13, 3) := by decide +kernel
theorem dX8_dayGoes_20 : decode cX8_dayGoes 20 = .ok (.bipush 41, 2) := by decide +kernel
theorem dX8_dayGoes_22 : decode cX8_dayGoes 22 = .ok (.iaload, 1) := by decide +kernel
theorem dX8_dayGoes_23 : decode cX8_dayGoes 23 = .ok (.isub, 1) := by decide +kernel
theorem dX8_dayGoes_24 : decode cX8_dayGoes 24 = .ok (.istore_n 2, 1) := by decide +kernel
theorem dX8_dayGoes_25 : decode cX8_dayGoes 25 = .ok (.aload_n 0, 1) := by decide +kernel
theorem dX8_dayGoes_26 : decode cX8_dayGoes 26 = .ok (.iload_n 1, 1) := by decide +kernel
theorem dX8_dayGoes_27 : decode cX8_dayGoes 27 = .ok (.iload_n 2, 1) := by decide +kernel
theorem dX8_dayGoes_28 : decode cX8_dayGoes 28 = .ok (.ifCond .le 7, 3) := by decide +kernel
theorem dX8_dayGoes_31 : decode cX8_dayGoes 31 = .ok (.iload_n 2, 1) := by decide +kernel
theorem dX8_dayGoes_32 : decode cX8_dayGoes 32 = .ok (.goto 4, 3) := by decide +kernel
theorem dX8_dayGoes_35 : decode cX8_dayGoes 35 = .ok (.iconst 0, 1) := by decide +kernel
theorem dX8_dayGoes_36 : decode cX8_dayGoes 36 = .ok (.invokevirtual 168, 3) := by decide +kernel
theorem dX8_dayGoes_39 : decode cX8_dayGoes 39 = .ok (.iinc 1 1, 3) := by decide +kernel
theorem dX8_dayGoes_42 : decode cX8_dayGoes 42 = .ok (.goto (-40), 3) := by decide +kernel
theorem dX8_dayGoes_45 : decode cX8_dayGoes 45 = .ok (.iconst 0, 1) := by decide +kernel
theorem dX8_dayGoes_46 : decode cX8_dayGoes 46 = .ok (.istore_n 1, 1) := by decide +kernel
theorem dX8_dayGoes_47 : decode cX8_dayGoes 47 = .ok (.iload_n 1, 1) := by decide +kernel
theorem dX8_dayGoes_48 : decode cX8_dayGoes 48 = .ok (.aload_n 0, 1) := by decide +kernel
theorem dX8_dayGoes_49 : decode cX8_dayGoes 49 = .ok (.getfield 67, 3) := by decide +kernel
theorem dX8_dayGoes_52 : decode cX8_dayGoes 52 = .ok (.if_icmp .ge 72, 3) := by decide +kernel
theorem dX8_dayGoes_55 : decode cX8_dayGoes 55 = .ok (.aload_n 0, 1) := by decide +kernel
theorem dX8_dayGoes_56 : decode cX8_dayGoes 56 = .ok (.iload_n 1, 1) := by decide +kernel
theorem dX8_dayGoes_57 : decode cX8_dayGoes 57 = .ok (.invokevirtual 172, 3) := by decide +kernel
theorem dX8_dayGoes_60 : decode cX8_dayGoes 60 = .ok (.istore_n 2, 1) := by decide +kernel
theorem dX8_dayGoes_61 : decode cX8_dayGoes 61 = .ok (.iconst 0, 1) := by decide +kernel
theorem dX8_dayGoes_62 : decode cX8_dayGoes 62 = .ok (.istore_n 3, 1) := by decide +kernel
theorem dX8_dayGoes_63 : decode cX8_dayGoes 63 = .ok (.iload_n 3, 1) := by decide +kernel
theorem dX8_dayGoes_64 : decode cX8_dayGoes 64 = .ok (.aload_n 0, 1) := by decide +kernel
theorem dX8_dayGoes_65 : decode cX8_dayGoes 65 = .ok (.getfield 67, 3) := by decide +kernel
theorem dX8_dayGoes_68 : decode cX8_dayGoes 68 = .ok (.if_icmp .ge 50, 3) := by decide +kernel
theorem dX8_dayGoes_71 : decode cX8_dayGoes 71 = .ok (.iload_n 2, 1) := by decide +kernel
theorem dX8_dayGoes_72 : decode cX8_dayGoes 72 = .ok (.aload_n 0, 1) := by decide +kernel
theorem dX8_dayGoes_73 : decode cX8_dayGoes 73 = .ok (.iload_n 1, 1) := by decide +kernel
theorem dX8_dayGoes_74 : decode cX8_dayGoes 74 = .ok (.iload_n 3, 1) := by decide +kernel
theorem dX8_dayGoes_75 : decode cX8_dayGoes 75 = .ok (.invokevirtual 149, 3) := by decide +kernel
theorem dX8_dayGoes_78 : decode cX8_dayGoes 78 = .ok (.invokestatic 161, 3) := by decide +kernel
theorem dX8_dayGoes_81 : decode cX8_dayGoes 81 = .ok (.istore 4, 2) := by decide +kernel
theorem dX8_dayGoes_83 : decode cX8_dayGoes 83 = .ok (.iload 4, 2) := by decide +kernel
theorem dX8_dayGoes_85 : decode cX8_dayGoes 85 = .ok (.ifCond .le 27, 3) := by decide +kernel
theorem dX8_dayGoes_88 : decode cX8_dayGoes 88 = .ok (.aload_n 0, 1) := by decide +kernel
theorem dX8_dayGoes_89 : decode cX8_dayGoes 89 = .ok (.iload_n 1, 1) := by decide +kernel
theorem dX8_dayGoes_90 : decode cX8_dayGoes 90 = .ok (.iload_n 3, 1) := by decide +kernel
theorem dX8_dayGoes_91 : decode cX8_dayGoes 91 = .ok (.iload 4, 2) := by decide +kernel
theorem dX8_dayGoes_93 : decode cX8_dayGoes 93 = .ok (.invokevirtual 175, 3) := by decide +kernel
theorem dX8_dayGoes_96 : decode cX8_dayGoes 96 = .ok (.iload_n 2, 1) := by decide +kernel
theorem dX8_dayGoes_97 : decode cX8_dayGoes 97 = .ok (.iload 4, 2) := by decide +kernel
theorem dX8_dayGoes_99 : decode cX8_dayGoes 99 = .ok (.isub, 1) := by decide +kernel
theorem dX8_dayGoes_100 : decode cX8_dayGoes 100 = .ok (.istore_n 2, 1) := by decide +kernel
theorem dX8_dayGoes_101 : decode cX8_dayGoes 101 = .ok (.aload_n 0, 1) := by decide +kernel
theorem dX8_dayGoes_102 : decode cX8_dayGoes 102 = .ok (.dup, 1) := by decide +kernel
theorem dX8_dayGoes_103 : decode cX8_dayGoes 103 = .ok (.getfield 178, 3) := by decide +kernel
theorem dX8_dayGoes_106 : decode cX8_dayGoes 106 = .ok (.iload 4, 2) := by decide +kernel
theorem dX8_dayGoes_108 : decode cX8_dayGoes 108 = .ok (.iadd, 1) := by decide +kernel
theorem dX8_dayGoes_109 : decode cX8_dayGoes 109 = .ok (.putfield 178, 3) := by decide +kernel
theorem dX8_dayGoes_112 : decode cX8_dayGoes 112 = .ok (.iinc 3 1, 3) := by decide +kernel
theorem dX8_dayGoes_115 : decode cX8_dayGoes 115 = .ok (.goto (-52), 3) := by decide +kernel
theorem dX8_dayGoes_118 : decode cX8_dayGoes 118 = .ok (.iinc 1 1, 3) := by decide +kernel
theorem dX8_dayGoes_121 : decode cX8_dayGoes 121 = .ok (.goto (-74), 3) := by decide +kernel
theorem dX8_dayGoes_124 : decode cX8_dayGoes 124 = .ok (.aload_n 0, 1) := by decide +kernel
theorem dX8_dayGoes_125 : decode cX8_dayGoes 125 = .ok (.getfield 13, 3) := by decide +kernel
theorem dX8_dayGoes_128 : decode cX8_dayGoes 128 = .ok (.bipush 40, 2) := by decide +kernel
theorem dX8_dayGoes_130 : decode cX8_dayGoes 130 = .ok (.dup2, 1) := by decide +kernel
theorem dX8_dayGoes_131 : decode cX8_dayGoes 131 = .ok (.iaload, 1) := by decide +kernel
theorem dX8_dayGoes_132 : decode cX8_dayGoes 132 = .ok (.iconst 1, 1) := by decide +kernel
theorem dX8_dayGoes_133 : decode cX8_dayGoes 133 = .ok (.iadd, 1) := by decide +kernel
theorem dX8_dayGoes_134 : decode cX8_dayGoes 134 = .ok (.iastore, 1) := by decide +kernel
theorem dX8_dayGoes_135 : decode cX8_dayGoes 135 = .ok (.return_, 1) := by decide +kernel
set_option maxRecDepth 20000 in
theorem ggX8_daysGo_X8_dayGoes : GoodIn wsX8_daysGo wsX8_dayGoes := goodIn_r _ [6, 7, 8, 1, 9, 10, 11, 5, 12, 13, 14, 15, 16, 17, 18, 19, 20, 21, 22, 23, 24, 25, 26, 27, 28, 29, 30, 31, 32, 33, 34, 35, 36, 37, 38, 39, 40, 41, 42, 43, 44, 45, 46, 47, 48, 49, 50, 51, 52, 53, 54, 55, 56, 57, 58, 59, 60, 61, 62, 63, 64, 65, 66, 67, 68, 69] (by decide +kernel) (by decide +kernel)
set_option maxRecDepth 20000 in
theorem gX8_daysGo_X8_dayGoes : GoodIn wsX8_daysGo (wsV RX8 181 RX8 yX8_dayGoes wsX8_dayGoes) := goodIn_app (goodIn_of _ (by decide +kernel)) ggX8_daysGo_X8_dayGoes
theorem dX8_daysGo_0 : decode cX8_daysGo 0 = .ok (.aload_n 0, 1) := by decide +kernel
theorem dX8_daysGo_1 : decode cX8_daysGo 1 = .ok (.iconst 0, 1) := by decide +kernel
theorem dX8_daysGo_2 : decode cX8_daysGo 2 = .ok (.putfield 178, 3) := by decide +kernel
theorem dX8_daysGo_5 : decode cX8_daysGo 5 = .ok (.iconst 0, 1) := by decide +kernel
theorem dX8_daysGo_6 : decode cX8_daysGo 6 = .ok (.istore_n 2, 1) := by decide +kernel
theorem dX8_daysGo_7 : decode cX8_daysGo 7 = .ok (.iload_n 2, 1) := by decide +kernel
theorem dX8_daysGo_8 : decode cX8_daysGo 8 = .ok (.iload_n 1, 1) := by decide +kernel
theorem dX8_daysGo_9 : decode cX8_daysGo 9 = .ok (.if_icmp .ge 13, 3) := by decide +kernel
theorem dX8_daysGo_12 : decode cX8_daysGo 12 = .ok (.aload_n 0, 1) := by decide +kernel
theorem dX8_daysGo_13 : decode cX8_daysGo 13 = .ok (.invokevirtual 181, 3) := by decide +kernel
theorem dX8_daysGo_16 : decode cX8_daysGo 16 = .ok (.iinc 2 1, 3) := by decide +kernel
theorem dX8_daysGo_19 : decode cX8_daysGo 19 = .ok (.goto (-12), 3) := by decide +kernel
theorem dX8_daysGo_22 : decode cX8_daysGo 22 = .ok (.return_, 1) := by decide +kernel
set_option maxRecDepth 20000 in
theorem ggX8_riding_X8_owesAll : GoodIn wsX8_riding wsX8_owesAll := goodIn_r _ [6, 1, 7, 8, 9, 5, 10, 11, 15, 16, 17, 18, 19, 20, 21, 22, 23, 24, 25, 26, 27, 28, 29, 30, 31, 32, 33, 34, 35, 36, 37, 38, 39, 40, 41, 42, 43, 44] (by decide +kernel) (by decide +kernel)
set_option maxRecDepth 20000 in
theorem gX8_riding_X8_owesAll : GoodIn wsX8_riding (wsV RX8 155 RX8 yX8_owesAll wsX8_owesAll) := goodIn_app (goodIn_of _ (by decide +kernel)) ggX8_riding_X8_owesAll
set_option maxRecDepth 20000 in
theorem ggX8_riding_X8_flag : GoodIn wsX8_riding wsX8_flag := goodIn_r _ [14] (by decide +kernel) (by decide +kernel)
set_option maxRecDepth 20000 in
theorem gX8_riding_X8_flag : GoodIn wsX8_riding (va_wsS RX8 184 yX8_flag wsX8_flag) := goodIn_app (goodIn_of _ (by decide +kernel)) ggX8_riding_X8_flag
theorem dX8_riding_0 : decode cX8_riding 0 = .ok (.iconst 0, 1) := by decide +kernel
theorem dX8_riding_1 : decode cX8_riding 1 = .ok (.istore_n 1, 1) := by decide +kernel
theorem dX8_riding_2 : decode cX8_riding 2 = .ok (.iconst 0, 1) := by decide +kernel
theorem dX8_riding_3 : decode cX8_riding 3 = .ok (.istore_n 2, 1) := by decide +kernel
theorem dX8_riding_4 : decode cX8_riding 4 = .ok (.iload_n 2, 1) := by decide +kernel
theorem dX8_riding_5 : decode cX8_riding 5 = .ok (.aload_n 0, 1) := by decide +kernel
theorem dX8_riding_6 : decode cX8_riding 6 = .ok (.getfield 67, 3) := by decide +kernel
theorem dX8_riding_9 : decode cX8_riding 9 = .ok (.if_icmp .ge 30, 3) := by decide +kernel
theorem dX8_riding_12 : decode cX8_riding 12 = .ok (.iload_n 1, 1) := by decide +kernel
theorem dX8_riding_13 : decode cX8_riding 13 = .ok (.aload_n 0, 1) := by decide +kernel
theorem dX8_riding_14 : decode cX8_riding 14 = .ok (.iload_n 2, 1) := by decide +kernel
theorem dX8_riding_15 : decode cX8_riding 15 = .ok (.invokevirtual 155, 3) := by decide +kernel
theorem dX8_riding_18 : decode cX8_riding 18 = .ok (.ifCond .ne 7, 3) := by decide +kernel
theorem dX8_riding_21 : decode cX8_riding 21 = .ok (.iconst 1, 1) := by decide +kernel
theorem dX8_riding_22 : decode cX8_riding 22 = .ok (.goto 4, 3) := by decide +kernel
theorem dX8_riding_25 : decode cX8_riding 25 = .ok (.iconst 0, 1) := by decide +kernel
theorem dX8_riding_26 : decode cX8_riding 26 = .ok (.invokestatic 184, 3) := by decide +kernel
theorem dX8_riding_29 : decode cX8_riding 29 = .ok (.iload_n 2, 1) := by decide +kernel
theorem dX8_riding_30 : decode cX8_riding 30 = .ok (.ishl, 1) := by decide +kernel
theorem dX8_riding_31 : decode cX8_riding 31 = .ok (.ior, 1) := by decide +kernel
theorem dX8_riding_32 : decode cX8_riding 32 = .ok (.istore_n 1, 1) := by decide +kernel
theorem dX8_riding_33 : decode cX8_riding 33 = .ok (.iinc 2 1, 3) := by decide +kernel
theorem dX8_riding_36 : decode cX8_riding 36 = .ok (.goto (-32), 3) := by decide +kernel
theorem dX8_riding_39 : decode cX8_riding 39 = .ok (.iload_n 1, 1) := by decide +kernel
theorem dX8_riding_40 : decode cX8_riding 40 = .ok (.ireturn, 1) := by decide +kernel
set_option maxRecDepth 20000 in
theorem ggX8_ridingMany_X8_owesAll : GoodIn wsX8_ridingMany wsX8_owesAll := goodIn_r _ [6, 1, 7, 8, 9, 5, 10, 11, 15, 16, 17, 18, 19, 20, 21, 22, 23, 24, 25, 26, 27, 28, 29, 30, 31, 32, 33, 34, 35, 36, 37, 38, 39, 40, 41, 42, 43, 44] (by decide +kernel) (by decide +kernel)
set_option maxRecDepth 20000 in
theorem gX8_ridingMany_X8_owesAll : GoodIn wsX8_ridingMany (wsV RX8 155 RX8 yX8_owesAll wsX8_owesAll) := goodIn_app (goodIn_of _ (by decide +kernel)) ggX8_ridingMany_X8_owesAll
set_option maxRecDepth 20000 in
theorem ggX8_ridingMany_X8_flag : GoodIn wsX8_ridingMany wsX8_flag := goodIn_r _ [14] (by decide +kernel) (by decide +kernel)
set_option maxRecDepth 20000 in
theorem gX8_ridingMany_X8_flag : GoodIn wsX8_ridingMany (va_wsS RX8 184 yX8_flag wsX8_flag) := goodIn_app (goodIn_of _ (by decide +kernel)) ggX8_ridingMany_X8_flag
theorem dX8_ridingMany_0 : decode cX8_ridingMany 0 = .ok (.iconst 0, 1) := by decide +kernel
theorem dX8_ridingMany_1 : decode cX8_ridingMany 1 = .ok (.istore_n 1, 1) := by decide +kernel
theorem dX8_ridingMany_2 : decode cX8_ridingMany 2 = .ok (.iconst 0, 1) := by decide +kernel
theorem dX8_ridingMany_3 : decode cX8_ridingMany 3 = .ok (.istore_n 2, 1) := by decide +kernel
theorem dX8_ridingMany_4 : decode cX8_ridingMany 4 = .ok (.iload_n 2, 1) := by decide +kernel
theorem dX8_ridingMany_5 : decode cX8_ridingMany 5 = .ok (.aload_n 0, 1) := by decide +kernel
theorem dX8_ridingMany_6 : decode cX8_ridingMany 6 = .ok (.getfield 67, 3) := by decide +kernel
theorem dX8_ridingMany_9 : decode cX8_ridingMany 9 = .ok (.if_icmp .ge 28, 3) := by decide +kernel
theorem dX8_ridingMany_12 : decode cX8_ridingMany 12 = .ok (.iload_n 1, 1) := by decide +kernel
theorem dX8_ridingMany_13 : decode cX8_ridingMany 13 = .ok (.aload_n 0, 1) := by decide +kernel
theorem dX8_ridingMany_14 : decode cX8_ridingMany 14 = .ok (.iload_n 2, 1) := by decide +kernel
theorem dX8_ridingMany_15 : decode cX8_ridingMany 15 = .ok (.invokevirtual 155, 3) := by decide +kernel
theorem dX8_ridingMany_18 : decode cX8_ridingMany 18 = .ok (.ifCond .ne 7, 3) := by decide +kernel
theorem dX8_ridingMany_21 : decode cX8_ridingMany 21 = .ok (.iconst 1, 1) := by decide +kernel
theorem dX8_ridingMany_22 : decode cX8_ridingMany 22 = .ok (.goto 4, 3) := by decide +kernel
theorem dX8_ridingMany_25 : decode cX8_ridingMany 25 = .ok (.iconst 0, 1) := by decide +kernel
theorem dX8_ridingMany_26 : decode cX8_ridingMany 26 = .ok (.invokestatic 184, 3) := by decide +kernel
theorem dX8_ridingMany_29 : decode cX8_ridingMany 29 = .ok (.iadd, 1) := by decide +kernel
theorem dX8_ridingMany_30 : decode cX8_ridingMany 30 = .ok (.istore_n 1, 1) := by decide +kernel
theorem dX8_ridingMany_31 : decode cX8_ridingMany 31 = .ok (.iinc 2 1, 3) := by decide +kernel
theorem dX8_ridingMany_34 : decode cX8_ridingMany 34 = .ok (.goto (-30), 3) := by decide +kernel
theorem dX8_ridingMany_37 : decode cX8_ridingMany 37 = .ok (.iload_n 1, 1) := by decide +kernel
theorem dX8_ridingMany_38 : decode cX8_ridingMany 38 = .ok (.ireturn, 1) := by decide +kernel
set_option maxRecDepth 20000 in
theorem ggX8_allOwed_X8_owesAll : GoodIn wsX8_allOwed wsX8_owesAll := goodIn_r _ [6, 1, 7, 8, 9, 5, 10, 11, 12, 13, 14, 15, 16, 17, 18, 19, 20, 21, 22, 23, 24, 25, 26, 27, 28, 29, 30, 31, 32, 33, 34, 35, 36, 37, 38, 39, 40, 41] (by decide +kernel) (by decide +kernel)
set_option maxRecDepth 20000 in
theorem gX8_allOwed_X8_owesAll : GoodIn wsX8_allOwed (wsV RX8 155 RX8 yX8_owesAll wsX8_owesAll) := goodIn_app (goodIn_of _ (by decide +kernel)) ggX8_allOwed_X8_owesAll
theorem dX8_allOwed_0 : decode cX8_allOwed 0 = .ok (.iconst 0, 1) := by decide +kernel
theorem dX8_allOwed_1 : decode cX8_allOwed 1 = .ok (.istore_n 1, 1) := by decide +kernel
theorem dX8_allOwed_2 : decode cX8_allOwed 2 = .ok (.iconst 0, 1) := by decide +kernel
theorem dX8_allOwed_3 : decode cX8_allOwed 3 = .ok (.istore_n 2, 1) := by decide +kernel
theorem dX8_allOwed_4 : decode cX8_allOwed 4 = .ok (.iload_n 2, 1) := by decide +kernel
theorem dX8_allOwed_5 : decode cX8_allOwed 5 = .ok (.aload_n 0, 1) := by decide +kernel
theorem dX8_allOwed_6 : decode cX8_allOwed 6 = .ok (.getfield 67, 3) := by decide +kernel
theorem dX8_allOwed_9 : decode cX8_allOwed 9 = .ok (.if_icmp .ge 17, 3) := by decide +kernel
theorem dX8_allOwed_12 : decode cX8_allOwed 12 = .ok (.iload_n 1, 1) := by decide +kernel
theorem dX8_allOwed_13 : decode cX8_allOwed 13 = .ok (.aload_n 0, 1) := by decide +kernel
theorem dX8_allOwed_14 : decode cX8_allOwed 14 = .ok (.iload_n 2, 1) := by decide +kernel
theorem dX8_allOwed_15 : decode cX8_allOwed 15 = .ok (.invokevirtual 155, 3) := by decide +kernel
theorem dX8_allOwed_18 : decode cX8_allOwed 18 = .ok (.iadd, 1) := by decide +kernel
theorem dX8_allOwed_19 : decode cX8_allOwed 19 = .ok (.istore_n 1, 1) := by decide +kernel
theorem dX8_allOwed_20 : decode cX8_allOwed 20 = .ok (.iinc 2 1, 3) := by decide +kernel
theorem dX8_allOwed_23 : decode cX8_allOwed 23 = .ok (.goto (-19), 3) := by decide +kernel
theorem dX8_allOwed_26 : decode cX8_allOwed 26 = .ok (.iload_n 1, 1) := by decide +kernel
theorem dX8_allOwed_27 : decode cX8_allOwed 27 = .ok (.ireturn, 1) := by decide +kernel
set_option maxRecDepth 20000 in
theorem ggX8_allMoney_X8_of : GoodIn wsX8_allMoney wsX8_of := goodIn_r _ [6, 7, 8, 9, 10, 11, 12, 13, 14, 15, 16, 17, 18, 19, 20, 21, 22, 23, 24, 25, 26, 27, 28, 29, 30, 31, 32, 33, 34, 35, 36, 37] (by decide +kernel) (by decide +kernel)
set_option maxRecDepth 20000 in
theorem gX8_allMoney_X8_of : GoodIn wsX8_allMoney (wsV RX8 158 RX8 yX8_of wsX8_of) := goodIn_app (goodIn_of _ (by decide +kernel)) ggX8_allMoney_X8_of
theorem dX8_allMoney_0 : decode cX8_allMoney 0 = .ok (.iconst 0, 1) := by decide +kernel
theorem dX8_allMoney_1 : decode cX8_allMoney 1 = .ok (.istore_n 1, 1) := by decide +kernel
theorem dX8_allMoney_2 : decode cX8_allMoney 2 = .ok (.iconst 0, 1) := by decide +kernel
theorem dX8_allMoney_3 : decode cX8_allMoney 3 = .ok (.istore_n 2, 1) := by decide +kernel
theorem dX8_allMoney_4 : decode cX8_allMoney 4 = .ok (.iload_n 2, 1) := by decide +kernel
theorem dX8_allMoney_5 : decode cX8_allMoney 5 = .ok (.aload_n 0, 1) := by decide +kernel
theorem dX8_allMoney_6 : decode cX8_allMoney 6 = .ok (.getfield 67, 3) := by decide +kernel
theorem dX8_allMoney_9 : decode cX8_allMoney 9 = .ok (.if_icmp .ge 18, 3) := by decide +kernel
theorem dX8_allMoney_12 : decode cX8_allMoney 12 = .ok (.iload_n 1, 1) := by decide +kernel
theorem dX8_allMoney_13 : decode cX8_allMoney 13 = .ok (.aload_n 0, 1) := by decide +kernel
theorem dX8_allMoney_14 : decode cX8_allMoney 14 = .ok (.iload_n 2, 1) := by decide +kernel
theorem dX8_allMoney_15 : decode cX8_allMoney 15 = .ok (.iconst 1, 1) := by decide +kernel
theorem dX8_allMoney_16 : decode cX8_allMoney 16 = .ok (.invokevirtual 158, 3) := by decide +kernel
theorem dX8_allMoney_19 : decode cX8_allMoney 19 = .ok (.iadd, 1) := by decide +kernel
theorem dX8_allMoney_20 : decode cX8_allMoney 20 = .ok (.istore_n 1, 1) := by decide +kernel
theorem dX8_allMoney_21 : decode cX8_allMoney 21 = .ok (.iinc 2 1, 3) := by decide +kernel
theorem dX8_allMoney_24 : decode cX8_allMoney 24 = .ok (.goto (-20), 3) := by decide +kernel
theorem dX8_allMoney_27 : decode cX8_allMoney 27 = .ok (.iload_n 1, 1) := by decide +kernel
theorem dX8_allMoney_28 : decode cX8_allMoney 28 = .ok (.ireturn, 1) := by decide +kernel
set_option maxRecDepth 20000 in
theorem ggX8_rule_X8_starts : GoodIn wsX8_rule wsX8_starts := goodIn_r _ [7, 8, 2, 36, 37, 38, 39, 40, 41, 42, 43, 44, 45, 46, 47, 48, 49, 50, 51, 52, 53, 54, 55, 56, 57, 58, 59, 60, 61, 62, 63, 64, 65] (by decide +kernel) (by decide +kernel)
set_option maxRecDepth 20000 in
theorem gX8_rule_X8_starts : GoodIn wsX8_rule (wsV RX8 188 RX8 yX8_starts wsX8_starts) := goodIn_app (goodIn_of _ (by decide +kernel)) ggX8_rule_X8_starts
set_option maxRecDepth 20000 in
theorem ggX8_rule_X8_riding : GoodIn wsX8_rule wsX8_riding := goodIn_r _ [12, 1, 13, 14, 15, 6, 16, 17, 18, 19, 20, 8, 21, 22, 23, 36, 37, 38, 39, 40, 41, 42, 43, 44, 45, 46, 47, 48, 49, 50, 51, 52, 53, 54, 55, 56, 57, 58, 59, 60, 61, 62, 63, 64, 65] (by decide +kernel) (by decide +kernel)
set_option maxRecDepth 20000 in
theorem gX8_rule_X8_riding : GoodIn wsX8_rule (wsV RX8 191 RX8 yX8_riding wsX8_riding) := goodIn_app (goodIn_of _ (by decide +kernel)) ggX8_rule_X8_riding
set_option maxRecDepth 20000 in
theorem ggX8_rule_X8_allOwed : GoodIn wsX8_rule wsX8_allOwed := goodIn_r _ [27, 1, 13, 14, 15, 6, 16, 17, 18, 19, 20, 8, 36, 37, 38, 39, 40, 41, 42, 43, 44, 45, 46, 47, 48, 49, 50, 51, 52, 53, 54, 55, 56, 57, 58, 59, 60, 61, 62, 63, 64, 65] (by decide +kernel) (by decide +kernel)
set_option maxRecDepth 20000 in
theorem gX8_rule_X8_allOwed : GoodIn wsX8_rule (wsV RX8 194 RX8 yX8_allOwed wsX8_allOwed) := goodIn_app (goodIn_of _ (by decide +kernel)) ggX8_rule_X8_allOwed
set_option maxRecDepth 20000 in
theorem ggX8_rule_X8_allMoney : GoodIn wsX8_rule wsX8_allMoney := goodIn_r _ [31, 1, 32, 33, 34, 6, 35, 8, 36, 37, 38, 39, 40, 41, 42, 43, 44, 45, 46, 47, 48, 49, 50, 51, 52, 53, 54, 55, 56, 57, 58, 59, 60, 61, 62, 63, 64, 65] (by decide +kernel) (by decide +kernel)
set_option maxRecDepth 20000 in
theorem gX8_rule_X8_allMoney : GoodIn wsX8_rule (wsV RX8 197 RX8 yX8_allMoney wsX8_allMoney) := goodIn_app (goodIn_of _ (by decide +kernel)) ggX8_rule_X8_allMoney
theorem dX8_rule_0 : decode cX8_rule 0 = .ok (.aload_n 0, 1) := by decide +kernel
theorem dX8_rule_1 : decode cX8_rule 1 = .ok (.invokevirtual 188, 3) := by decide +kernel
theorem dX8_rule_4 : decode cX8_rule 4 = .ok (.iload_n 1, 1) := by decide +kernel
theorem dX8_rule_5 : decode cX8_rule 5 = .ok (.tableswitch 75 0 5 #[39, 44, 52, 60, 65, 70], 39) := by decide +kernel
theorem dX8_rule_44 : decode cX8_rule 44 = .ok (.aload_n 0, 1) := by decide +kernel
theorem dX8_rule_45 : decode cX8_rule 45 = .ok (.getfield 67, 3) := by decide +kernel
theorem dX8_rule_48 : decode cX8_rule 48 = .ok (.ireturn, 1) := by decide +kernel
theorem dX8_rule_49 : decode cX8_rule 49 = .ok (.aload_n 0, 1) := by decide +kernel
theorem dX8_rule_50 : decode cX8_rule 50 = .ok (.getfield 7, 3) := by decide +kernel
theorem dX8_rule_53 : decode cX8_rule 53 = .ok (.bipush 40, 2) := by decide +kernel
theorem dX8_rule_55 : decode cX8_rule 55 = .ok (.iaload, 1) := by decide +kernel
theorem dX8_rule_56 : decode cX8_rule 56 = .ok (.ireturn, 1) := by decide +kernel
theorem dX8_rule_57 : decode cX8_rule 57 = .ok (.aload_n 0, 1) := by decide +kernel
theorem dX8_rule_58 : decode cX8_rule 58 = .ok (.getfield 7, 3) := by decide +kernel
theorem dX8_rule_61 : decode cX8_rule 61 = .ok (.bipush 41, 2) := by decide +kernel
theorem dX8_rule_63 : decode cX8_rule 63 = .ok (.iaload, 1) := by decide +kernel
theorem dX8_rule_64 : decode cX8_rule 64 = .ok (.ireturn, 1) := by decide +kernel
theorem dX8_rule_65 : decode cX8_rule 65 = .ok (.aload_n 0, 1) := by decide +kernel
theorem dX8_rule_66 : decode cX8_rule 66 = .ok (.invokevirtual 191, 3) := by decide +kernel
theorem dX8_rule_69 : decode cX8_rule 69 = .ok (.ireturn, 1) := by decide +kernel
theorem dX8_rule_70 : decode cX8_rule 70 = .ok (.aload_n 0, 1) := by decide +kernel
theorem dX8_rule_71 : decode cX8_rule 71 = .ok (.invokevirtual 194, 3) := by decide +kernel
theorem dX8_rule_74 : decode cX8_rule 74 = .ok (.ireturn, 1) := by decide +kernel
theorem dX8_rule_75 : decode cX8_rule 75 = .ok (.aload_n 0, 1) := by decide +kernel
theorem dX8_rule_76 : decode cX8_rule 76 = .ok (.invokevirtual 197, 3) := by decide +kernel
theorem dX8_rule_79 : decode cX8_rule 79 = .ok (.ireturn, 1) := by decide +kernel
theorem dX8_rule_80 : decode cX8_rule 80 = .ok (.iconst (-1), 1) := by decide +kernel
theorem dX8_rule_81 : decode cX8_rule 81 = .ok (.ireturn, 1) := by decide +kernel
set_option maxRecDepth 20000 in
theorem ggX8_one_X8_isOne : GoodIn wsX8_one wsX8_isOne := goodIn_r _ [5, 6, 7, 8, 4, 9, 40, 41, 42, 43, 44, 45, 46, 47, 48, 49, 50, 51, 52, 53, 54, 55, 56, 57, 58, 59, 60, 61, 62, 63, 64, 65, 66, 67, 68, 69] (by decide +kernel) (by decide +kernel)
set_option maxRecDepth 20000 in
theorem gX8_one_X8_isOne : GoodIn wsX8_one (wsV RX8 145 RX8 yX8_isOne wsX8_isOne) := goodIn_app (goodIn_of _ (by decide +kernel)) ggX8_one_X8_isOne
set_option maxRecDepth 20000 in
theorem ggX8_one_X8_starts : GoodIn wsX8_one wsX8_starts := goodIn_r _ [13, 14, 15, 40, 41, 42, 43, 44, 45, 46, 47, 48, 49, 50, 51, 52, 53, 54, 55, 56, 57, 58, 59, 60, 61, 62, 63, 64, 65, 66, 67, 68, 69] (by decide +kernel) (by decide +kernel)
set_option maxRecDepth 20000 in
theorem gX8_one_X8_starts : GoodIn wsX8_one (wsV RX8 188 RX8 yX8_starts wsX8_starts) := goodIn_app (goodIn_of _ (by decide +kernel)) ggX8_one_X8_starts
set_option maxRecDepth 20000 in
theorem ggX8_one_X8_of : GoodIn wsX8_one wsX8_of := goodIn_r _ [19, 14, 40, 41, 42, 43, 44, 45, 46, 47, 48, 49, 50, 51, 52, 53, 54, 55, 56, 57, 58, 59, 60, 61, 62, 63, 64, 65, 66, 67, 68, 69] (by decide +kernel) (by decide +kernel)
set_option maxRecDepth 20000 in
theorem gX8_one_X8_of : GoodIn wsX8_one (wsV RX8 158 RX8 yX8_of wsX8_of) := goodIn_app (goodIn_of _ (by decide +kernel)) ggX8_one_X8_of
set_option maxRecDepth 20000 in
theorem ggX8_one_X8_owesAll : GoodIn wsX8_one wsX8_owesAll := goodIn_r _ [23, 6, 24, 25, 26, 4, 27, 14, 40, 41, 42, 43, 44, 45, 46, 47, 48, 49, 50, 51, 52, 53, 54, 55, 56, 57, 58, 59, 60, 61, 62, 63, 64, 65, 66, 67, 68, 69] (by decide +kernel) (by decide +kernel)
set_option maxRecDepth 20000 in
theorem gX8_one_X8_owesAll : GoodIn wsX8_one (wsV RX8 155 RX8 yX8_owesAll wsX8_owesAll) := goodIn_app (goodIn_of _ (by decide +kernel)) ggX8_one_X8_owesAll
set_option maxRecDepth 20000 in
theorem ggX8_one_X8_isOwed : GoodIn wsX8_one wsX8_isOwed := goodIn_r _ [31, 6, 24, 25, 26, 4, 27, 14, 40, 41, 42, 43, 44, 45, 46, 47, 48, 49, 50, 51, 52, 53, 54, 55, 56, 57, 58, 59, 60, 61, 62, 63, 64, 65, 66, 67, 68, 69] (by decide +kernel) (by decide +kernel)
set_option maxRecDepth 20000 in
theorem gX8_one_X8_isOwed : GoodIn wsX8_one (wsV RX8 152 RX8 yX8_isOwed wsX8_isOwed) := goodIn_app (goodIn_of _ (by decide +kernel)) ggX8_one_X8_isOwed
set_option maxRecDepth 20000 in
theorem ggX8_one_X8_height : GoodIn wsX8_one wsX8_height := goodIn_r _ [35, 28, 29, 30, 4, 31, 6, 24, 25, 26, 27, 14, 20, 21, 22, 23, 16, 17, 18, 19, 40, 41, 42, 43, 44, 45, 46, 47, 48, 49, 50, 51, 52, 53, 54, 55, 56, 57, 58, 59, 60, 61, 62, 63, 64, 65, 66, 67, 68, 69] (by decide +kernel) (by decide +kernel)
set_option maxRecDepth 20000 in
theorem gX8_one_X8_height : GoodIn wsX8_one (wsV RX8 200 RX8 yX8_height wsX8_height) := goodIn_app (goodIn_of _ (by decide +kernel)) ggX8_one_X8_height
set_option maxRecDepth 20000 in
theorem ggX8_one_X8_will : GoodIn wsX8_one wsX8_will := goodIn_r _ [39, 16, 17, 18, 4, 19, 14, 20, 21, 22, 23, 6, 24, 25, 26, 27, 40, 41, 42, 43, 44, 45, 46, 47, 48, 49, 50, 51, 52, 53, 54, 55, 56, 57, 58, 59, 60, 61, 62, 63, 64, 65, 66, 67, 68, 69] (by decide +kernel) (by decide +kernel)
set_option maxRecDepth 20000 in
theorem gX8_one_X8_will : GoodIn wsX8_one (wsV RX8 172 RX8 yX8_will wsX8_will) := goodIn_app (goodIn_of _ (by decide +kernel)) ggX8_one_X8_will
theorem dX8_one_0 : decode cX8_one 0 = .ok (.aload_n 0, 1) := by decide +kernel
theorem dX8_one_1 : decode cX8_one 1 = .ok (.iload_n 1, 1) := by decide +kernel
theorem dX8_one_2 : decode cX8_one 2 = .ok (.invokevirtual 145, 3) := by decide +kernel
theorem dX8_one_5 : decode cX8_one 5 = .ok (.ifCond .ne 5, 3) := by decide +kernel
theorem dX8_one_8 : decode cX8_one 8 = .ok (.iconst (-1), 1) := by decide +kernel
theorem dX8_one_9 : decode cX8_one 9 = .ok (.ireturn, 1) := by decide +kernel
theorem dX8_one_10 : decode cX8_one 10 = .ok (.aload_n 0, 1) := by decide +kernel
theorem dX8_one_11 : decode cX8_one 11 = .ok (.invokevirtual 188, 3) := by decide +kernel
theorem dX8_one_14 : decode cX8_one 14 = .ok (.iload_n 2, 1) := by decide +kernel
theorem dX8_one_15 : decode cX8_one 15 = .ok (.tableswitch 72 0 6 #[41, 41, 41, 48, 54, 60, 66], 41) := by decide +kernel
theorem dX8_one_56 : decode cX8_one 56 = .ok (.aload_n 0, 1) := by decide +kernel
theorem dX8_one_57 : decode cX8_one 57 = .ok (.iload_n 1, 1) := by decide +kernel
theorem dX8_one_58 : decode cX8_one 58 = .ok (.iload_n 2, 1) := by decide +kernel
theorem dX8_one_59 : decode cX8_one 59 = .ok (.invokevirtual 158, 3) := by decide +kernel
theorem dX8_one_62 : decode cX8_one 62 = .ok (.ireturn, 1) := by decide +kernel
theorem dX8_one_63 : decode cX8_one 63 = .ok (.aload_n 0, 1) := by decide +kernel
theorem dX8_one_64 : decode cX8_one 64 = .ok (.iload_n 1, 1) := by decide +kernel
theorem dX8_one_65 : decode cX8_one 65 = .ok (.invokevirtual 155, 3) := by decide +kernel
theorem dX8_one_68 : decode cX8_one 68 = .ok (.ireturn, 1) := by decide +kernel
theorem dX8_one_69 : decode cX8_one 69 = .ok (.aload_n 0, 1) := by decide +kernel
theorem dX8_one_70 : decode cX8_one 70 = .ok (.iload_n 1, 1) := by decide +kernel
theorem dX8_one_71 : decode cX8_one 71 = .ok (.invokevirtual 152, 3) := by decide +kernel
theorem dX8_one_74 : decode cX8_one 74 = .ok (.ireturn, 1) := by decide +kernel
theorem dX8_one_75 : decode cX8_one 75 = .ok (.aload_n 0, 1) := by decide +kernel
theorem dX8_one_76 : decode cX8_one 76 = .ok (.iload_n 1, 1) := by decide +kernel
theorem dX8_one_77 : decode cX8_one 77 = .ok (.invokevirtual 200, 3) := by decide +kernel
theorem dX8_one_80 : decode cX8_one 80 = .ok (.ireturn, 1) := by decide +kernel
theorem dX8_one_81 : decode cX8_one 81 = .ok (.aload_n 0, 1) := by decide +kernel
theorem dX8_one_82 : decode cX8_one 82 = .ok (.iload_n 1, 1) := by decide +kernel
theorem dX8_one_83 : decode cX8_one 83 = .ok (.invokevirtual 172, 3) := by decide +kernel
theorem dX8_one_86 : decode cX8_one 86 = .ok (.ireturn, 1) := by decide +kernel
theorem dX8_one_87 : decode cX8_one 87 = .ok (.iconst (-1), 1) := by decide +kernel
theorem dX8_one_88 : decode cX8_one 88 = .ok (.ireturn, 1) := by decide +kernel
set_option maxRecDepth 20000 in
theorem ggX8_owes_X8_areTwo : GoodIn wsX8_owes wsX8_areTwo := goodIn_r _ [6, 7, 8, 9, 5, 10, 11, 12, 13, 14, 15, 16, 17, 18, 19, 20, 21, 22, 23, 24, 25, 26, 27, 28, 29, 30, 31, 32, 33, 34, 35, 36, 37, 38, 39, 40, 41, 42, 43, 44] (by decide +kernel) (by decide +kernel)
set_option maxRecDepth 20000 in
theorem gX8_owes_X8_areTwo : GoodIn wsX8_owes (wsV RX8 203 RX8 yX8_areTwo wsX8_areTwo) := goodIn_app (goodIn_of _ (by decide +kernel)) ggX8_owes_X8_areTwo
theorem dX8_owes_0 : decode cX8_owes 0 = .ok (.aload_n 0, 1) := by decide +kernel
theorem dX8_owes_1 : decode cX8_owes 1 = .ok (.iload_n 1, 1) := by decide +kernel
theorem dX8_owes_2 : decode cX8_owes 2 = .ok (.iload_n 2, 1) := by decide +kernel
theorem dX8_owes_3 : decode cX8_owes 3 = .ok (.invokevirtual 203, 3) := by decide +kernel
theorem dX8_owes_6 : decode cX8_owes 6 = .ok (.ifCond .eq 19, 3) := by decide +kernel
theorem dX8_owes_9 : decode cX8_owes 9 = .ok (.aload_n 0, 1) := by decide +kernel
theorem dX8_owes_10 : decode cX8_owes 10 = .ok (.getfield 7, 3) := by decide +kernel
theorem dX8_owes_13 : decode cX8_owes 13 = .ok (.bipush 15, 2) := by decide +kernel
theorem dX8_owes_15 : decode cX8_owes 15 = .ok (.iconst 5, 1) := by decide +kernel
theorem dX8_owes_16 : decode cX8_owes 16 = .ok (.iload_n 1, 1) := by decide +kernel
theorem dX8_owes_17 : decode cX8_owes 17 = .ok (.imul, 1) := by decide +kernel
theorem dX8_owes_18 : decode cX8_owes 18 = .ok (.iadd, 1) := by decide +kernel
theorem dX8_owes_19 : decode cX8_owes 19 = .ok (.iload_n 2, 1) := by decide +kernel
theorem dX8_owes_20 : decode cX8_owes 20 = .ok (.iadd, 1) := by decide +kernel
theorem dX8_owes_21 : decode cX8_owes 21 = .ok (.iaload, 1) := by decide +kernel
theorem dX8_owes_22 : decode cX8_owes 22 = .ok (.goto 4, 3) := by decide +kernel
theorem dX8_owes_25 : decode cX8_owes 25 = .ok (.iconst (-1), 1) := by decide +kernel
theorem dX8_owes_26 : decode cX8_owes 26 = .ok (.ireturn, 1) := by decide +kernel
set_option maxRecDepth 20000 in
theorem ggX8_meet_X8_areTwo : GoodIn wsX8_meet wsX8_areTwo := goodIn_r _ [5, 6, 7, 8, 4, 9, 10, 11, 12, 13, 40, 41, 42, 43, 44, 45, 46, 47, 48, 49, 50, 51, 52, 53, 54, 55, 56, 57, 58, 59, 60, 61, 62, 63, 64, 65, 66, 67, 68, 69] (by decide +kernel) (by decide +kernel)
set_option maxRecDepth 20000 in
theorem gX8_meet_X8_areTwo : GoodIn wsX8_meet (wsV RX8 203 RX8 yX8_areTwo wsX8_areTwo) := goodIn_app (goodIn_of _ (by decide +kernel)) ggX8_meet_X8_areTwo
set_option maxRecDepth 20000 in
theorem ggX8_meet_X8_starts : GoodIn wsX8_meet wsX8_starts := goodIn_r _ [17, 18, 19, 40, 41, 42, 43, 44, 45, 46, 47, 48, 49, 50, 51, 52, 53, 54, 55, 56, 57, 58, 59, 60, 61, 62, 63, 64, 65, 66, 67, 68, 69] (by decide +kernel) (by decide +kernel)
set_option maxRecDepth 20000 in
theorem gX8_meet_X8_starts : GoodIn wsX8_meet (wsV RX8 188 RX8 yX8_starts wsX8_starts) := goodIn_app (goodIn_of _ (by decide +kernel)) ggX8_meet_X8_starts
set_option maxRecDepth 20000 in
theorem ggX8_meet_X8_height : GoodIn wsX8_meet wsX8_height := goodIn_r _ [23, 24, 25, 26, 4, 27, 10, 28, 29, 30, 31, 18, 32, 33, 34, 35, 36, 37, 38, 39, 40, 41, 42, 43, 44, 45, 46, 47, 48, 49, 50, 51, 52, 53, 54, 55, 56, 57, 58, 59, 60, 61, 62, 63, 64, 65, 66, 67, 68, 69] (by decide +kernel) (by decide +kernel)
set_option maxRecDepth 20000 in
theorem gX8_meet_X8_height : GoodIn wsX8_meet (wsV RX8 200 RX8 yX8_height wsX8_height) := goodIn_app (goodIn_of _ (by decide +kernel)) ggX8_meet_X8_height
theorem dX8_meet_0 : decode cX8_meet 0 = .ok (.aload_n 0, 1) := by decide +kernel
theorem dX8_meet_1 : decode cX8_meet 1 = .ok (.iload_n 1, 1) := by decide +kernel
theorem dX8_meet_2 : decode cX8_meet 2 = .ok (.iload_n 2, 1) := by decide +kernel
theorem dX8_meet_3 : decode cX8_meet 3 = .ok (.invokevirtual 203, 3) := by decide +kernel
theorem dX8_meet_6 : decode cX8_meet 6 = .ok (.ifCond .ne 5, 3) := by decide +kernel
theorem dX8_meet_9 : decode cX8_meet 9 = .ok (.iconst (-1), 1) := by decide +kernel
theorem dX8_meet_10 : decode cX8_meet 10 = .ok (.ireturn, 1) := by decide +kernel
theorem dX8_meet_11 : decode cX8_meet 11 = .ok (.aload_n 0, 1) := by decide +kernel
theorem dX8_meet_12 : decode cX8_meet 12 = .ok (.invokevirtual 188, 3) := by decide +kernel
theorem dX8_meet_15 : decode cX8_meet 15 = .ok (.aload_n 0, 1) := by decide +kernel
theorem dX8_meet_16 : decode cX8_meet 16 = .ok (.iload_n 1, 1) := by decide +kernel
theorem dX8_meet_17 : decode cX8_meet 17 = .ok (.invokevirtual 200, 3) := by decide +kernel
theorem dX8_meet_20 : decode cX8_meet 20 = .ok (.istore_n 3, 1) := by decide +kernel
theorem dX8_meet_21 : decode cX8_meet 21 = .ok (.aload_n 0, 1) := by decide +kernel
theorem dX8_meet_22 : decode cX8_meet 22 = .ok (.iload_n 2, 1) := by decide +kernel
theorem dX8_meet_23 : decode cX8_meet 23 = .ok (.invokevirtual 200, 3) := by decide +kernel
theorem dX8_meet_26 : decode cX8_meet 26 = .ok (.istore 4, 2) := by decide +kernel
theorem dX8_meet_28 : decode cX8_meet 28 = .ok (.iload_n 3, 1) := by decide +kernel
theorem dX8_meet_29 : decode cX8_meet 29 = .ok (.iload 4, 2) := by decide +kernel
theorem dX8_meet_31 : decode cX8_meet 31 = .ok (.if_icmp .ge 7, 3) := by decide +kernel
theorem dX8_meet_34 : decode cX8_meet 34 = .ok (.iload_n 1, 1) := by decide +kernel
theorem dX8_meet_35 : decode cX8_meet 35 = .ok (.goto 15, 3) := by decide +kernel
theorem dX8_meet_38 : decode cX8_meet 38 = .ok (.iload 4, 2) := by decide +kernel
theorem dX8_meet_40 : decode cX8_meet 40 = .ok (.iload_n 3, 1) := by decide +kernel
theorem dX8_meet_41 : decode cX8_meet 41 = .ok (.if_icmp .ge 7, 3) := by decide +kernel
theorem dX8_meet_44 : decode cX8_meet 44 = .ok (.iload_n 2, 1) := by decide +kernel
theorem dX8_meet_45 : decode cX8_meet 45 = .ok (.goto 5, 3) := by decide +kernel
theorem dX8_meet_48 : decode cX8_meet 48 = .ok (.bipush (-4), 2) := by decide +kernel
theorem dX8_meet_50 : decode cX8_meet 50 = .ok (.ireturn, 1) := by decide +kernel
theorem dX8_becomes_0 : decode cX8_becomes 0 = .ok (.aload_n 0, 1) := by decide +kernel
theorem dX8_becomes_1 : decode cX8_becomes 1 = .ok (.getfield 7, 3) := by decide +kernel
theorem dX8_becomes_4 : decode cX8_becomes 4 = .ok (.iload_n 1, 1) := by decide +kernel
theorem dX8_becomes_5 : decode cX8_becomes 5 = .ok (.iaload, 1) := by decide +kernel
theorem dX8_becomes_6 : decode cX8_becomes 6 = .ok (.istore_n 3, 1) := by decide +kernel
theorem dX8_becomes_7 : decode cX8_becomes 7 = .ok (.aload_n 0, 1) := by decide +kernel
theorem dX8_becomes_8 : decode cX8_becomes 8 = .ok (.getfield 7, 3) := by decide +kernel
theorem dX8_becomes_11 : decode cX8_becomes 11 = .ok (.iload_n 1, 1) := by decide +kernel
theorem dX8_becomes_12 : decode cX8_becomes 12 = .ok (.iload_n 2, 1) := by decide +kernel
theorem dX8_becomes_13 : decode cX8_becomes 13 = .ok (.iastore, 1) := by decide +kernel
theorem dX8_becomes_14 : decode cX8_becomes 14 = .ok (.iload_n 3, 1) := by decide +kernel
theorem dX8_becomes_15 : decode cX8_becomes 15 = .ok (.ireturn, 1) := by decide +kernel
set_option maxRecDepth 20000 in
theorem ggX8_alter_X8_in : GoodIn wsX8_alter wsX8_in := goodIn_r _ [7] (by decide +kernel) (by decide +kernel)
set_option maxRecDepth 20000 in
theorem gX8_alter_X8_in : GoodIn wsX8_alter (va_wsS RX8 72 yX8_in wsX8_in) := goodIn_app (goodIn_of _ (by decide +kernel)) ggX8_alter_X8_in
set_option maxRecDepth 20000 in
theorem ggX8_alter_X8_isOne : GoodIn wsX8_alter wsX8_isOne := goodIn_r _ [11, 12, 4, 5, 6, 7, 18, 19, 20, 21, 22, 23, 24, 25, 26, 27, 28, 29, 30, 31, 32, 33, 34, 35, 36, 37, 38, 39, 40, 41, 42, 43, 44, 45, 46, 47] (by decide +kernel) (by decide +kernel)
set_option maxRecDepth 20000 in
theorem gX8_alter_X8_isOne : GoodIn wsX8_alter (wsV RX8 145 RX8 yX8_isOne wsX8_isOne) := goodIn_app (goodIn_of _ (by decide +kernel)) ggX8_alter_X8_isOne
set_option maxRecDepth 20000 in
theorem ggX8_alter_X8_becomes : GoodIn wsX8_alter wsX8_becomes := goodIn_r _ [16, 17, 18, 19, 20, 21, 22, 23, 24, 25, 26, 27, 28, 29, 30, 31, 32, 33, 34, 35, 36, 37, 38, 39, 40, 41, 42, 43, 44, 45, 46, 47] (by decide +kernel) (by decide +kernel)
set_option maxRecDepth 20000 in
theorem gX8_alter_X8_becomes : GoodIn wsX8_alter (wsV RX8 213 RX8 yX8_becomes wsX8_becomes) := goodIn_app (goodIn_of _ (by decide +kernel)) ggX8_alter_X8_becomes
theorem dX8_alter_0 : decode cX8_alter 0 = .ok (.iload_n 2, 1) := by decide +kernel
theorem dX8_alter_1 : decode cX8_alter 1 = .ok (.ifCond .ne 15, 3) := by decide +kernel
theorem dX8_alter_4 : decode cX8_alter 4 = .ok (.iload_n 3, 1) := by decide +kernel
theorem dX8_alter_5 : decode cX8_alter 5 = .ok (.i2l, 1) := by decide +kernel
theorem dX8_alter_6 : decode cX8_alter 6 = .ok (.lconst 0, 1) := by decide +kernel
theorem dX8_alter_7 : decode cX8_alter 7 = .ok (.ldc2_w 207, 3) := by decide +kernel
theorem dX8_alter_10 : decode cX8_alter 10 = .ok (.invokestatic 72, 3) := by decide +kernel
theorem dX8_alter_13 : decode cX8_alter 13 = .ok (.goto 42, 3) := by decide +kernel
theorem dX8_alter_16 : decode cX8_alter 16 = .ok (.iload_n 2, 1) := by decide +kernel
theorem dX8_alter_17 : decode cX8_alter 17 = .ok (.iconst 1, 1) := by decide +kernel
theorem dX8_alter_18 : decode cX8_alter 18 = .ok (.if_icmp .ne 15, 3) := by decide +kernel
theorem dX8_alter_21 : decode cX8_alter 21 = .ok (.iload_n 3, 1) := by decide +kernel
theorem dX8_alter_22 : decode cX8_alter 22 = .ok (.i2l, 1) := by decide +kernel
theorem dX8_alter_23 : decode cX8_alter 23 = .ok (.lconst 0, 1) := by decide +kernel
theorem dX8_alter_24 : decode cX8_alter 24 = .ok (.ldc2_w 209, 3) := by decide +kernel
theorem dX8_alter_27 : decode cX8_alter 27 = .ok (.invokestatic 72, 3) := by decide +kernel
theorem dX8_alter_30 : decode cX8_alter 30 = .ok (.goto 25, 3) := by decide +kernel
theorem dX8_alter_33 : decode cX8_alter 33 = .ok (.iload_n 2, 1) := by decide +kernel
theorem dX8_alter_34 : decode cX8_alter 34 = .ok (.iconst 2, 1) := by decide +kernel
theorem dX8_alter_35 : decode cX8_alter 35 = .ok (.if_icmp .ne 19, 3) := by decide +kernel
theorem dX8_alter_38 : decode cX8_alter 38 = .ok (.iload_n 3, 1) := by decide +kernel
theorem dX8_alter_39 : decode cX8_alter 39 = .ok (.i2l, 1) := by decide +kernel
theorem dX8_alter_40 : decode cX8_alter 40 = .ok (.lconst 0, 1) := by decide +kernel
theorem dX8_alter_41 : decode cX8_alter 41 = .ok (.ldc2_w 211, 3) := by decide +kernel
theorem dX8_alter_44 : decode cX8_alter 44 = .ok (.invokestatic 72, 3) := by decide +kernel
theorem dX8_alter_47 : decode cX8_alter 47 = .ok (.ifCond .eq 7, 3) := by decide +kernel
theorem dX8_alter_50 : decode cX8_alter 50 = .ok (.iconst 1, 1) := by decide +kernel
theorem dX8_alter_51 : decode cX8_alter 51 = .ok (.goto 4, 3) := by decide +kernel
theorem dX8_alter_54 : decode cX8_alter 54 = .ok (.iconst 0, 1) := by decide +kernel
theorem dX8_alter_55 : decode cX8_alter 55 = .ok (.istore 4, 2) := by decide +kernel
theorem dX8_alter_57 : decode cX8_alter 57 = .ok (.aload_n 0, 1) := by decide +kernel
theorem dX8_alter_58 : decode cX8_alter 58 = .ok (.iload_n 1, 1) := by decide +kernel
theorem dX8_alter_59 : decode cX8_alter 59 = .ok (.invokevirtual 145, 3) := by decide +kernel
theorem dX8_alter_62 : decode cX8_alter 62 = .ok (.ifCond .eq 21, 3) := by decide +kernel
theorem dX8_alter_65 : decode cX8_alter 65 = .ok (.iload 4, 2) := by decide +kernel
theorem dX8_alter_67 : decode cX8_alter 67 = .ok (.ifCond .eq 16, 3) := by decide +kernel
theorem dX8_alter_70 : decode cX8_alter 70 = .ok (.aload_n 0, 1) := by decide +kernel
theorem dX8_alter_71 : decode cX8_alter 71 = .ok (.iconst 3, 1) := by decide +kernel
theorem dX8_alter_72 : decode cX8_alter 72 = .ok (.iload_n 1, 1) := by decide +kernel
theorem dX8_alter_73 : decode cX8_alter 73 = .ok (.imul, 1) := by decide +kernel
theorem dX8_alter_74 : decode cX8_alter 74 = .ok (.iload_n 2, 1) := by decide +kernel
theorem dX8_alter_75 : decode cX8_alter 75 = .ok (.iadd, 1) := by decide +kernel
theorem dX8_alter_76 : decode cX8_alter 76 = .ok (.iload_n 3, 1) := by decide +kernel
theorem dX8_alter_77 : decode cX8_alter 77 = .ok (.invokevirtual 213, 3) := by decide +kernel
theorem dX8_alter_80 : decode cX8_alter 80 = .ok (.goto 4, 3) := by decide +kernel
theorem dX8_alter_83 : decode cX8_alter 83 = .ok (.iconst (-1), 1) := by decide +kernel
theorem dX8_alter_84 : decode cX8_alter 84 = .ok (.ireturn, 1) := by decide +kernel
set_option maxRecDepth 20000 in
theorem ggX8_bond_X8_areTwo : GoodIn wsX8_bond wsX8_areTwo := goodIn_r _ [6, 7, 8, 9, 5, 10, 11, 12, 13, 14, 20, 21, 22, 23, 24, 25, 26, 27, 28, 29, 30, 31, 32, 33, 34, 35, 36, 37, 38, 39, 40, 41, 42, 43, 44, 45, 46, 47, 48, 49] (by decide +kernel) (by decide +kernel)
set_option maxRecDepth 20000 in
theorem gX8_bond_X8_areTwo : GoodIn wsX8_bond (wsV RX8 203 RX8 yX8_areTwo wsX8_areTwo) := goodIn_app (goodIn_of _ (by decide +kernel)) ggX8_bond_X8_areTwo
set_option maxRecDepth 20000 in
theorem ggX8_bond_X8_in : GoodIn wsX8_bond wsX8_in := goodIn_r _ [14] (by decide +kernel) (by decide +kernel)
set_option maxRecDepth 20000 in
theorem gX8_bond_X8_in : GoodIn wsX8_bond (va_wsS RX8 72 yX8_in wsX8_in) := goodIn_app (goodIn_of _ (by decide +kernel)) ggX8_bond_X8_in
set_option maxRecDepth 20000 in
theorem ggX8_bond_X8_becomes : GoodIn wsX8_bond wsX8_becomes := goodIn_r _ [18, 19, 20, 21, 22, 23, 24, 25, 26, 27, 28, 29, 30, 31, 32, 33, 34, 35, 36, 37, 38, 39, 40, 41, 42, 43, 44, 45, 46, 47, 48, 49] (by decide +kernel) (by decide +kernel)
set_option maxRecDepth 20000 in
theorem gX8_bond_X8_becomes : GoodIn wsX8_bond (wsV RX8 213 RX8 yX8_becomes wsX8_becomes) := goodIn_app (goodIn_of _ (by decide +kernel)) ggX8_bond_X8_becomes
theorem dX8_bond_0 : decode cX8_bond 0 = .ok (.aload_n 0, 1) := by decide +kernel
theorem dX8_bond_1 : decode cX8_bond 1 = .ok (.iload_n 1, 1) := by decide +kernel
theorem dX8_bond_2 : decode cX8_bond 2 = .ok (.iload_n 2, 1) := by decide +kernel
theorem dX8_bond_3 : decode cX8_bond 3 = .ok (.invokevirtual 203, 3) := by decide +kernel
theorem dX8_bond_6 : decode cX8_bond 6 = .ok (.ifCond .eq 31, 3) := by decide +kernel
theorem dX8_bond_9 : decode cX8_bond 9 = .ok (.iload_n 3, 1) := by decide +kernel
theorem dX8_bond_10 : decode cX8_bond 10 = .ok (.i2l, 1) := by decide +kernel
theorem dX8_bond_11 : decode cX8_bond 11 = .ok (.lconst 0, 1) := by decide +kernel
theorem dX8_bond_12 : decode cX8_bond 12 = .ok (.ldc2_w 216, 3) := by decide +kernel
theorem dX8_bond_15 : decode cX8_bond 15 = .ok (.invokestatic 72, 3) := by decide +kernel
theorem dX8_bond_18 : decode cX8_bond 18 = .ok (.ifCond .eq 19, 3) := by decide +kernel
theorem dX8_bond_21 : decode cX8_bond 21 = .ok (.aload_n 0, 1) := by decide +kernel
theorem dX8_bond_22 : decode cX8_bond 22 = .ok (.bipush 15, 2) := by decide +kernel
theorem dX8_bond_24 : decode cX8_bond 24 = .ok (.iconst 5, 1) := by decide +kernel
theorem dX8_bond_25 : decode cX8_bond 25 = .ok (.iload_n 1, 1) := by decide +kernel
theorem dX8_bond_26 : decode cX8_bond 26 = .ok (.imul, 1) := by decide +kernel
theorem dX8_bond_27 : decode cX8_bond 27 = .ok (.iadd, 1) := by decide +kernel
theorem dX8_bond_28 : decode cX8_bond 28 = .ok (.iload_n 2, 1) := by decide +kernel
theorem dX8_bond_29 : decode cX8_bond 29 = .ok (.iadd, 1) := by decide +kernel
theorem dX8_bond_30 : decode cX8_bond 30 = .ok (.iload_n 3, 1) := by decide +kernel
theorem dX8_bond_31 : decode cX8_bond 31 = .ok (.invokevirtual 213, 3) := by decide +kernel
theorem dX8_bond_34 : decode cX8_bond 34 = .ok (.goto 4, 3) := by decide +kernel
theorem dX8_bond_37 : decode cX8_bond 37 = .ok (.iconst (-1), 1) := by decide +kernel
theorem dX8_bond_38 : decode cX8_bond 38 = .ok (.ireturn, 1) := by decide +kernel
set_option maxRecDepth 20000 in
theorem ggX8_dry_X8_in : GoodIn wsX8_dry wsX8_in := goodIn_r _ [5] (by decide +kernel) (by decide +kernel)
set_option maxRecDepth 20000 in
theorem gX8_dry_X8_in : GoodIn wsX8_dry (va_wsS RX8 72 yX8_in wsX8_in) := goodIn_app (goodIn_of _ (by decide +kernel)) ggX8_dry_X8_in
set_option maxRecDepth 20000 in
theorem ggX8_dry_X8_becomes : GoodIn wsX8_dry wsX8_becomes := goodIn_r _ [9, 10, 11, 12, 13, 14, 15, 16, 17, 18, 19, 20, 21, 22, 23, 24, 25, 26, 27, 28, 29, 30, 31, 32, 33, 34, 35, 36, 37, 38, 39, 40] (by decide +kernel) (by decide +kernel)
set_option maxRecDepth 20000 in
theorem gX8_dry_X8_becomes : GoodIn wsX8_dry (wsV RX8 213 RX8 yX8_becomes wsX8_becomes) := goodIn_app (goodIn_of _ (by decide +kernel)) ggX8_dry_X8_becomes
theorem dX8_dry_0 : decode cX8_dry 0 = .ok (.iload_n 1, 1) := by decide +kernel
theorem dX8_dry_1 : decode cX8_dry 1 = .ok (.i2l, 1) := by decide +kernel
theorem dX8_dry_2 : decode cX8_dry 2 = .ok (.lconst 0, 1) := by decide +kernel
theorem dX8_dry_3 : decode cX8_dry 3 = .ok (.ldc2_w 211, 3) := by decide +kernel
theorem dX8_dry_6 : decode cX8_dry 6 = .ok (.invokestatic 72, 3) := by decide +kernel
theorem dX8_dry_9 : decode cX8_dry 9 = .ok (.ifCond .eq 13, 3) := by decide +kernel
theorem dX8_dry_12 : decode cX8_dry 12 = .ok (.aload_n 0, 1) := by decide +kernel
theorem dX8_dry_13 : decode cX8_dry 13 = .ok (.bipush 41, 2) := by decide +kernel
theorem dX8_dry_15 : decode cX8_dry 15 = .ok (.iload_n 1, 1) := by decide +kernel
theorem dX8_dry_16 : decode cX8_dry 16 = .ok (.invokevirtual 213, 3) := by decide +kernel
theorem dX8_dry_19 : decode cX8_dry 19 = .ok (.goto 4, 3) := by decide +kernel
theorem dX8_dry_22 : decode cX8_dry 22 = .ok (.iconst (-1), 1) := by decide +kernel
theorem dX8_dry_23 : decode cX8_dry 23 = .ok (.ireturn, 1) := by decide +kernel
set_option maxRecDepth 20000 in
theorem ggX8_lendsNow_X8_of : GoodIn wsX8_lendsNow wsX8_of := goodIn_r _ [6, 1, 22, 23, 24, 25, 26, 27, 28, 29, 30, 31, 32, 33, 34, 35, 36, 37, 38, 39, 40, 41, 42, 43, 44, 45, 46, 47, 48, 49, 50, 51] (by decide +kernel) (by decide +kernel)
set_option maxRecDepth 20000 in
theorem gX8_lendsNow_X8_of : GoodIn wsX8_lendsNow (wsV RX8 158 RX8 yX8_of wsX8_of) := goodIn_app (goodIn_of _ (by decide +kernel)) ggX8_lendsNow_X8_of
set_option maxRecDepth 20000 in
theorem ggX8_lendsNow_X8_debt : GoodIn wsX8_lendsNow wsX8_debt := goodIn_r _ [10, 1, 22, 23, 24, 25, 26, 27, 28, 29, 30, 31, 32, 33, 34, 35, 36, 37, 38, 39, 40, 41, 42, 43, 44, 45, 46, 47, 48, 49, 50, 51] (by decide +kernel) (by decide +kernel)
set_option maxRecDepth 20000 in
theorem gX8_lendsNow_X8_debt : GoodIn wsX8_lendsNow (wsV RX8 149 RX8 yX8_debt wsX8_debt) := goodIn_app (goodIn_of _ (by decide +kernel)) ggX8_lendsNow_X8_debt
set_option maxRecDepth 20000 in
theorem ggX8_lendsNow_X8_becomesOf : GoodIn wsX8_lendsNow wsX8_becomesOf := goodIn_r _ [14, 1, 22, 23, 24, 25, 26, 27, 28, 29, 30, 31, 32, 33, 34, 35, 36, 37, 38, 39, 40, 41, 42, 43, 44, 45, 46, 47, 48, 49, 50, 51] (by decide +kernel) (by decide +kernel)
set_option maxRecDepth 20000 in
theorem gX8_lendsNow_X8_becomesOf : GoodIn wsX8_lendsNow (wsV RX8 164 RX8 yX8_becomesOf wsX8_becomesOf) := goodIn_app (goodIn_of _ (by decide +kernel)) ggX8_lendsNow_X8_becomesOf
set_option maxRecDepth 20000 in
theorem ggX8_lendsNow_X8_gets : GoodIn wsX8_lendsNow wsX8_gets := goodIn_r _ [18, 2, 3, 4, 5, 6, 1, 19, 20, 21, 11, 12, 13, 14, 22, 23, 24, 25, 26, 27, 28, 29, 30, 31, 32, 33, 34, 35, 36, 37, 38, 39, 40, 41, 42, 43, 44, 45, 46, 47, 48, 49, 50, 51] (by decide +kernel) (by decide +kernel)
set_option maxRecDepth 20000 in
theorem gX8_lendsNow_X8_gets : GoodIn wsX8_lendsNow (wsV RX8 168 RX8 yX8_gets wsX8_gets) := goodIn_app (goodIn_of _ (by decide +kernel)) ggX8_lendsNow_X8_gets
theorem dX8_lendsNow_0 : decode cX8_lendsNow 0 = .ok (.iload_n 1, 1) := by decide +kernel
theorem dX8_lendsNow_1 : decode cX8_lendsNow 1 = .ok (.iload_n 2, 1) := by decide +kernel
theorem dX8_lendsNow_2 : decode cX8_lendsNow 2 = .ok (.if_icmp .eq 44, 3) := by decide +kernel
theorem dX8_lendsNow_5 : decode cX8_lendsNow 5 = .ok (.aload_n 0, 1) := by decide +kernel
theorem dX8_lendsNow_6 : decode cX8_lendsNow 6 = .ok (.iload_n 1, 1) := by decide +kernel
theorem dX8_lendsNow_7 : decode cX8_lendsNow 7 = .ok (.iconst 1, 1) := by decide +kernel
theorem dX8_lendsNow_8 : decode cX8_lendsNow 8 = .ok (.invokevirtual 158, 3) := by decide +kernel
theorem dX8_lendsNow_11 : decode cX8_lendsNow 11 = .ok (.iload_n 3, 1) := by decide +kernel
theorem dX8_lendsNow_12 : decode cX8_lendsNow 12 = .ok (.if_icmp .lt 34, 3) := by decide +kernel
theorem dX8_lendsNow_15 : decode cX8_lendsNow 15 = .ok (.aload_n 0, 1) := by decide +kernel
theorem dX8_lendsNow_16 : decode cX8_lendsNow 16 = .ok (.iload_n 2, 1) := by decide +kernel
theorem dX8_lendsNow_17 : decode cX8_lendsNow 17 = .ok (.iload_n 1, 1) := by decide +kernel
theorem dX8_lendsNow_18 : decode cX8_lendsNow 18 = .ok (.invokevirtual 149, 3) := by decide +kernel
theorem dX8_lendsNow_21 : decode cX8_lendsNow 21 = .ok (.iload_n 3, 1) := by decide +kernel
theorem dX8_lendsNow_22 : decode cX8_lendsNow 22 = .ok (.iadd, 1) := by decide +kernel
theorem dX8_lendsNow_23 : decode cX8_lendsNow 23 = .ok (.bipush 99, 2) := by decide +kernel
theorem dX8_lendsNow_25 : decode cX8_lendsNow 25 = .ok (.if_icmp .gt 21, 3) := by decide +kernel
theorem dX8_lendsNow_28 : decode cX8_lendsNow 28 = .ok (.aload_n 0, 1) := by decide +kernel
theorem dX8_lendsNow_29 : decode cX8_lendsNow 29 = .ok (.iload_n 2, 1) := by decide +kernel
theorem dX8_lendsNow_30 : decode cX8_lendsNow 30 = .ok (.iconst 1, 1) := by decide +kernel
theorem dX8_lendsNow_31 : decode cX8_lendsNow 31 = .ok (.invokevirtual 158, 3) := by decide +kernel
theorem dX8_lendsNow_34 : decode cX8_lendsNow 34 = .ok (.iload_n 3, 1) := by decide +kernel
theorem dX8_lendsNow_35 : decode cX8_lendsNow 35 = .ok (.iadd, 1) := by decide +kernel
theorem dX8_lendsNow_36 : decode cX8_lendsNow 36 = .ok (.sipush 999, 3) := by decide +kernel
theorem dX8_lendsNow_39 : decode cX8_lendsNow 39 = .ok (.if_icmp .gt 7, 3) := by decide +kernel
theorem dX8_lendsNow_42 : decode cX8_lendsNow 42 = .ok (.iconst 1, 1) := by decide +kernel
theorem dX8_lendsNow_43 : decode cX8_lendsNow 43 = .ok (.goto 4, 3) := by decide +kernel
theorem dX8_lendsNow_46 : decode cX8_lendsNow 46 = .ok (.iconst 0, 1) := by decide +kernel
theorem dX8_lendsNow_47 : decode cX8_lendsNow 47 = .ok (.istore 4, 2) := by decide +kernel
theorem dX8_lendsNow_49 : decode cX8_lendsNow 49 = .ok (.iload 4, 2) := by decide +kernel
theorem dX8_lendsNow_51 : decode cX8_lendsNow 51 = .ok (.ifCond .eq 40, 3) := by decide +kernel
theorem dX8_lendsNow_54 : decode cX8_lendsNow 54 = .ok (.aload_n 0, 1) := by decide +kernel
theorem dX8_lendsNow_55 : decode cX8_lendsNow 55 = .ok (.getfield 13, 3) := by decide +kernel
theorem dX8_lendsNow_58 : decode cX8_lendsNow 58 = .ok (.bipush 15, 2) := by decide +kernel
theorem dX8_lendsNow_60 : decode cX8_lendsNow 60 = .ok (.iconst 5, 1) := by decide +kernel
theorem dX8_lendsNow_61 : decode cX8_lendsNow 61 = .ok (.iload_n 2, 1) := by decide +kernel
theorem dX8_lendsNow_62 : decode cX8_lendsNow 62 = .ok (.imul, 1) := by decide +kernel
theorem dX8_lendsNow_63 : decode cX8_lendsNow 63 = .ok (.iadd, 1) := by decide +kernel
theorem dX8_lendsNow_64 : decode cX8_lendsNow 64 = .ok (.iload_n 1, 1) := by decide +kernel
theorem dX8_lendsNow_65 : decode cX8_lendsNow 65 = .ok (.iadd, 1) := by decide +kernel
theorem dX8_lendsNow_66 : decode cX8_lendsNow 66 = .ok (.dup2, 1) := by decide +kernel
theorem dX8_lendsNow_67 : decode cX8_lendsNow 67 = .ok (.iaload, 1) := by decide +kernel
theorem dX8_lendsNow_68 : decode cX8_lendsNow 68 = .ok (.iload_n 3, 1) := by decide +kernel
theorem dX8_lendsNow_69 : decode cX8_lendsNow 69 = .ok (.iadd, 1) := by decide +kernel
theorem dX8_lendsNow_70 : decode cX8_lendsNow 70 = .ok (.iastore, 1) := by decide +kernel
theorem dX8_lendsNow_71 : decode cX8_lendsNow 71 = .ok (.aload_n 0, 1) := by decide +kernel
theorem dX8_lendsNow_72 : decode cX8_lendsNow 72 = .ok (.iload_n 1, 1) := by decide +kernel
theorem dX8_lendsNow_73 : decode cX8_lendsNow 73 = .ok (.iconst 1, 1) := by decide +kernel
theorem dX8_lendsNow_74 : decode cX8_lendsNow 74 = .ok (.aload_n 0, 1) := by decide +kernel
theorem dX8_lendsNow_75 : decode cX8_lendsNow 75 = .ok (.iload_n 1, 1) := by decide +kernel
theorem dX8_lendsNow_76 : decode cX8_lendsNow 76 = .ok (.iconst 1, 1) := by decide +kernel
theorem dX8_lendsNow_77 : decode cX8_lendsNow 77 = .ok (.invokevirtual 158, 3) := by decide +kernel
theorem dX8_lendsNow_80 : decode cX8_lendsNow 80 = .ok (.iload_n 3, 1) := by decide +kernel
theorem dX8_lendsNow_81 : decode cX8_lendsNow 81 = .ok (.isub, 1) := by decide +kernel
theorem dX8_lendsNow_82 : decode cX8_lendsNow 82 = .ok (.invokevirtual 164, 3) := by decide +kernel
theorem dX8_lendsNow_85 : decode cX8_lendsNow 85 = .ok (.aload_n 0, 1) := by decide +kernel
theorem dX8_lendsNow_86 : decode cX8_lendsNow 86 = .ok (.iload_n 2, 1) := by decide +kernel
theorem dX8_lendsNow_87 : decode cX8_lendsNow 87 = .ok (.iload_n 3, 1) := by decide +kernel
theorem dX8_lendsNow_88 : decode cX8_lendsNow 88 = .ok (.invokevirtual 168, 3) := by decide +kernel
theorem dX8_lendsNow_91 : decode cX8_lendsNow 91 = .ok (.iload 4, 2) := by decide +kernel
theorem dX8_lendsNow_93 : decode cX8_lendsNow 93 = .ok (.ireturn, 1) := by decide +kernel
set_option maxRecDepth 20000 in
theorem ggX8_lend_X8_areTwo : GoodIn wsX8_lend wsX8_areTwo := goodIn_r _ [6, 7, 8, 9, 5, 10, 11, 12, 13, 14, 48, 49, 50, 51, 52, 53, 54, 55, 56, 57, 58, 59, 60, 61, 62, 63, 64, 65, 66, 67, 68, 69, 70, 71, 72, 73, 74, 75, 76, 77] (by decide +kernel) (by decide +kernel)
set_option maxRecDepth 20000 in
theorem gX8_lend_X8_areTwo : GoodIn wsX8_lend (wsV RX8 203 RX8 yX8_areTwo wsX8_areTwo) := goodIn_app (goodIn_of _ (by decide +kernel)) ggX8_lend_X8_areTwo
set_option maxRecDepth 20000 in
theorem ggX8_lend_X8_in : GoodIn wsX8_lend wsX8_in := goodIn_r _ [14] (by decide +kernel) (by decide +kernel)
set_option maxRecDepth 20000 in
theorem gX8_lend_X8_in : GoodIn wsX8_lend (va_wsS RX8 72 yX8_in wsX8_in) := goodIn_app (goodIn_of _ (by decide +kernel)) ggX8_lend_X8_in
set_option maxRecDepth 20000 in
theorem ggX8_lend_X8_starts : GoodIn wsX8_lend wsX8_starts := goodIn_r _ [18, 19, 20, 48, 49, 50, 51, 52, 53, 54, 55, 56, 57, 58, 59, 60, 61, 62, 63, 64, 65, 66, 67, 68, 69, 70, 71, 72, 73, 74, 75, 76, 77] (by decide +kernel) (by decide +kernel)
set_option maxRecDepth 20000 in
theorem gX8_lend_X8_starts : GoodIn wsX8_lend (wsV RX8 188 RX8 yX8_starts wsX8_starts) := goodIn_app (goodIn_of _ (by decide +kernel)) ggX8_lend_X8_starts
set_option maxRecDepth 20000 in
theorem ggX8_lend_X8_lendsNow : GoodIn wsX8_lend wsX8_lendsNow := goodIn_r _ [24, 19, 25, 26, 27, 5, 28, 29, 30, 31, 32, 33, 34, 35, 36, 37, 38, 39, 40, 41, 42, 43, 48, 49, 50, 51, 52, 53, 54, 55, 56, 57, 58, 59, 60, 61, 62, 63, 64, 65, 66, 67, 68, 69, 70, 71, 72, 73, 74, 75, 76, 77] (by decide +kernel) (by decide +kernel)
set_option maxRecDepth 20000 in
theorem gX8_lend_X8_lendsNow : GoodIn wsX8_lend (wsV RX8 218 RX8 yX8_lendsNow wsX8_lendsNow) := goodIn_app (goodIn_of _ (by decide +kernel)) ggX8_lend_X8_lendsNow
set_option maxRecDepth 20000 in
theorem ggX8_lend_X8_settles : GoodIn wsX8_lend wsX8_settles := goodIn_r _ [47, 20, 19, 48, 49, 50, 51, 52, 53, 54, 55, 56, 57, 58, 59, 60, 61, 62, 63, 64, 65, 66, 67, 68, 69, 70, 71, 72, 73, 74, 75, 76, 77] (by decide +kernel) (by decide +kernel)
set_option maxRecDepth 20000 in
theorem gX8_lend_X8_settles : GoodIn wsX8_lend (wsV RX8 221 RX8 yX8_settles wsX8_settles) := goodIn_app (goodIn_of _ (by decide +kernel)) ggX8_lend_X8_settles
set_option maxRecDepth 20000 in
theorem ggX8_lend_X8_debt : GoodIn wsX8_lend wsX8_debt := goodIn_r _ [32, 19, 48, 49, 50, 51, 52, 53, 54, 55, 56, 57, 58, 59, 60, 61, 62, 63, 64, 65, 66, 67, 68, 69, 70, 71, 72, 73, 74, 75, 76, 77] (by decide +kernel) (by decide +kernel)
set_option maxRecDepth 20000 in
theorem gX8_lend_X8_debt : GoodIn wsX8_lend (wsV RX8 149 RX8 yX8_debt wsX8_debt) := goodIn_app (goodIn_of _ (by decide +kernel)) ggX8_lend_X8_debt
theorem dX8_lend_0 : decode cX8_lend 0 = .ok (.aload_n 0, 1) := by decide +kernel
theorem dX8_lend_1 : decode cX8_lend 1 = .ok (.iload_n 1, 1) := by decide +kernel
theorem dX8_lend_2 : decode cX8_lend 2 = .ok (.iload_n 2, 1) := by decide +kernel
theorem dX8_lend_3 : decode cX8_lend 3 = .ok (.invokevirtual 203, 3) := by decide +kernel
theorem dX8_lend_6 : decode cX8_lend 6 = .ok (.ifCond .eq 15, 3) := by decide +kernel
theorem dX8_lend_9 : decode cX8_lend 9 = .ok (.iload_n 3, 1) := by decide +kernel
theorem dX8_lend_10 : decode cX8_lend 10 = .ok (.i2l, 1) := by decide +kernel
theorem dX8_lend_11 : decode cX8_lend 11 = .ok (.lconst 1, 1) := by decide +kernel
theorem dX8_lend_12 : decode cX8_lend 12 = .ok (.ldc2_w 216, 3) := by decide +kernel
theorem dX8_lend_15 : decode cX8_lend 15 = .ok (.invokestatic 72, 3) := by decide +kernel
theorem dX8_lend_18 : decode cX8_lend 18 = .ok (.ifCond .ne 5, 3) := by decide +kernel
theorem dX8_lend_21 : decode cX8_lend 21 = .ok (.iconst (-1), 1) := by decide +kernel
theorem dX8_lend_22 : decode cX8_lend 22 = .ok (.ireturn, 1) := by decide +kernel
theorem dX8_lend_23 : decode cX8_lend 23 = .ok (.aload_n 0, 1) := by decide +kernel
theorem dX8_lend_24 : decode cX8_lend 24 = .ok (.invokevirtual 188, 3) := by decide +kernel
theorem dX8_lend_27 : decode cX8_lend 27 = .ok (.aload_n 0, 1) := by decide +kernel
theorem dX8_lend_28 : decode cX8_lend 28 = .ok (.iload_n 1, 1) := by decide +kernel
theorem dX8_lend_29 : decode cX8_lend 29 = .ok (.iload_n 2, 1) := by decide +kernel
theorem dX8_lend_30 : decode cX8_lend 30 = .ok (.iload_n 3, 1) := by decide +kernel
theorem dX8_lend_31 : decode cX8_lend 31 = .ok (.invokevirtual 218, 3) := by decide +kernel
theorem dX8_lend_34 : decode cX8_lend 34 = .ok (.ifCond .ne 6, 3) := by decide +kernel
theorem dX8_lend_37 : decode cX8_lend 37 = .ok (.bipush (-2), 2) := by decide +kernel
theorem dX8_lend_39 : decode cX8_lend 39 = .ok (.ireturn, 1) := by decide +kernel
theorem dX8_lend_40 : decode cX8_lend 40 = .ok (.aload_n 0, 1) := by decide +kernel
theorem dX8_lend_41 : decode cX8_lend 41 = .ok (.invokevirtual 221, 3) := by decide +kernel
theorem dX8_lend_44 : decode cX8_lend 44 = .ok (.aload_n 0, 1) := by decide +kernel
theorem dX8_lend_45 : decode cX8_lend 45 = .ok (.iload_n 2, 1) := by decide +kernel
theorem dX8_lend_46 : decode cX8_lend 46 = .ok (.iload_n 1, 1) := by decide +kernel
theorem dX8_lend_47 : decode cX8_lend 47 = .ok (.invokevirtual 149, 3) := by decide +kernel
theorem dX8_lend_50 : decode cX8_lend 50 = .ok (.ireturn, 1) := by decide +kernel
set_option maxRecDepth 20000 in
theorem ggX8_pay_X8_areTwo : GoodIn wsX8_pay wsX8_areTwo := goodIn_r _ [6, 7, 8, 9, 5, 10, 11, 12, 13, 14, 48, 49, 50, 51, 52, 53, 54, 55, 56, 57, 58, 59, 60, 61, 62, 63, 64, 65, 66, 67, 68, 69, 70, 71, 72, 73, 74, 75, 76, 77] (by decide +kernel) (by decide +kernel)
set_option maxRecDepth 20000 in
theorem gX8_pay_X8_areTwo : GoodIn wsX8_pay (wsV RX8 203 RX8 yX8_areTwo wsX8_areTwo) := goodIn_app (goodIn_of _ (by decide +kernel)) ggX8_pay_X8_areTwo
set_option maxRecDepth 20000 in
theorem ggX8_pay_X8_in : GoodIn wsX8_pay wsX8_in := goodIn_r _ [14] (by decide +kernel) (by decide +kernel)
set_option maxRecDepth 20000 in
theorem gX8_pay_X8_in : GoodIn wsX8_pay (va_wsS RX8 72 yX8_in wsX8_in) := goodIn_app (goodIn_of _ (by decide +kernel)) ggX8_pay_X8_in
set_option maxRecDepth 20000 in
theorem ggX8_pay_X8_starts : GoodIn wsX8_pay wsX8_starts := goodIn_r _ [18, 19, 20, 48, 49, 50, 51, 52, 53, 54, 55, 56, 57, 58, 59, 60, 61, 62, 63, 64, 65, 66, 67, 68, 69, 70, 71, 72, 73, 74, 75, 76, 77] (by decide +kernel) (by decide +kernel)
set_option maxRecDepth 20000 in
theorem gX8_pay_X8_starts : GoodIn wsX8_pay (wsV RX8 188 RX8 yX8_starts wsX8_starts) := goodIn_app (goodIn_of _ (by decide +kernel)) ggX8_pay_X8_starts
set_option maxRecDepth 20000 in
theorem ggX8_pay_X8_debt : GoodIn wsX8_pay wsX8_debt := goodIn_r _ [24, 19, 48, 49, 50, 51, 52, 53, 54, 55, 56, 57, 58, 59, 60, 61, 62, 63, 64, 65, 66, 67, 68, 69, 70, 71, 72, 73, 74, 75, 76, 77] (by decide +kernel) (by decide +kernel)
set_option maxRecDepth 20000 in
theorem gX8_pay_X8_debt : GoodIn wsX8_pay (wsV RX8 149 RX8 yX8_debt wsX8_debt) := goodIn_app (goodIn_of _ (by decide +kernel)) ggX8_pay_X8_debt
set_option maxRecDepth 20000 in
theorem ggX8_pay_X8_of : GoodIn wsX8_pay wsX8_of := goodIn_r _ [28, 19, 48, 49, 50, 51, 52, 53, 54, 55, 56, 57, 58, 59, 60, 61, 62, 63, 64, 65, 66, 67, 68, 69, 70, 71, 72, 73, 74, 75, 76, 77] (by decide +kernel) (by decide +kernel)
set_option maxRecDepth 20000 in
theorem gX8_pay_X8_of : GoodIn wsX8_pay (wsV RX8 158 RX8 yX8_of wsX8_of) := goodIn_app (goodIn_of _ (by decide +kernel)) ggX8_pay_X8_of
set_option maxRecDepth 20000 in
theorem ggX8_pay_X8_paysTo : GoodIn wsX8_pay wsX8_paysTo := goodIn_r _ [32, 19, 25, 26, 27, 5, 28, 33, 34, 35, 36, 37, 38, 39, 40, 41, 42, 43, 48, 49, 50, 51, 52, 53, 54, 55, 56, 57, 58, 59, 60, 61, 62, 63, 64, 65, 66, 67, 68, 69, 70, 71, 72, 73, 74, 75, 76, 77] (by decide +kernel) (by decide +kernel)
set_option maxRecDepth 20000 in
theorem gX8_pay_X8_paysTo : GoodIn wsX8_pay (wsV RX8 175 RX8 yX8_paysTo wsX8_paysTo) := goodIn_app (goodIn_of _ (by decide +kernel)) ggX8_pay_X8_paysTo
set_option maxRecDepth 20000 in
theorem ggX8_pay_X8_settles : GoodIn wsX8_pay wsX8_settles := goodIn_r _ [47, 20, 19, 48, 49, 50, 51, 52, 53, 54, 55, 56, 57, 58, 59, 60, 61, 62, 63, 64, 65, 66, 67, 68, 69, 70, 71, 72, 73, 74, 75, 76, 77] (by decide +kernel) (by decide +kernel)
set_option maxRecDepth 20000 in
theorem gX8_pay_X8_settles : GoodIn wsX8_pay (wsV RX8 221 RX8 yX8_settles wsX8_settles) := goodIn_app (goodIn_of _ (by decide +kernel)) ggX8_pay_X8_settles
theorem dX8_pay_0 : decode cX8_pay 0 = .ok (.aload_n 0, 1) := by decide +kernel
theorem dX8_pay_1 : decode cX8_pay 1 = .ok (.iload_n 1, 1) := by decide +kernel
theorem dX8_pay_2 : decode cX8_pay 2 = .ok (.iload_n 2, 1) := by decide +kernel
theorem dX8_pay_3 : decode cX8_pay 3 = .ok (.invokevirtual 203, 3) := by decide +kernel
theorem dX8_pay_6 : decode cX8_pay 6 = .ok (.ifCond .eq 15, 3) := by decide +kernel
theorem dX8_pay_9 : decode cX8_pay 9 = .ok (.iload_n 3, 1) := by decide +kernel
theorem dX8_pay_10 : decode cX8_pay 10 = .ok (.i2l, 1) := by decide +kernel
theorem dX8_pay_11 : decode cX8_pay 11 = .ok (.lconst 1, 1) := by decide +kernel
theorem dX8_pay_12 : decode cX8_pay 12 = .ok (.ldc2_w 216, 3) := by decide +kernel
theorem dX8_pay_15 : decode cX8_pay 15 = .ok (.invokestatic 72, 3) := by decide +kernel
theorem dX8_pay_18 : decode cX8_pay 18 = .ok (.ifCond .ne 5, 3) := by decide +kernel
theorem dX8_pay_21 : decode cX8_pay 21 = .ok (.iconst (-1), 1) := by decide +kernel
theorem dX8_pay_22 : decode cX8_pay 22 = .ok (.ireturn, 1) := by decide +kernel
theorem dX8_pay_23 : decode cX8_pay 23 = .ok (.aload_n 0, 1) := by decide +kernel
theorem dX8_pay_24 : decode cX8_pay 24 = .ok (.invokevirtual 188, 3) := by decide +kernel
theorem dX8_pay_27 : decode cX8_pay 27 = .ok (.aload_n 0, 1) := by decide +kernel
theorem dX8_pay_28 : decode cX8_pay 28 = .ok (.iload_n 1, 1) := by decide +kernel
theorem dX8_pay_29 : decode cX8_pay 29 = .ok (.iload_n 2, 1) := by decide +kernel
theorem dX8_pay_30 : decode cX8_pay 30 = .ok (.invokevirtual 149, 3) := by decide +kernel
theorem dX8_pay_33 : decode cX8_pay 33 = .ok (.iload_n 3, 1) := by decide +kernel
theorem dX8_pay_34 : decode cX8_pay 34 = .ok (.if_icmp .lt 13, 3) := by decide +kernel
theorem dX8_pay_37 : decode cX8_pay 37 = .ok (.aload_n 0, 1) := by decide +kernel
theorem dX8_pay_38 : decode cX8_pay 38 = .ok (.iload_n 1, 1) := by decide +kernel
theorem dX8_pay_39 : decode cX8_pay 39 = .ok (.iconst 1, 1) := by decide +kernel
theorem dX8_pay_40 : decode cX8_pay 40 = .ok (.invokevirtual 158, 3) := by decide +kernel
theorem dX8_pay_43 : decode cX8_pay 43 = .ok (.iload_n 3, 1) := by decide +kernel
theorem dX8_pay_44 : decode cX8_pay 44 = .ok (.if_icmp .ge 6, 3) := by decide +kernel
theorem dX8_pay_47 : decode cX8_pay 47 = .ok (.bipush (-2), 2) := by decide +kernel
theorem dX8_pay_49 : decode cX8_pay 49 = .ok (.ireturn, 1) := by decide +kernel
theorem dX8_pay_50 : decode cX8_pay 50 = .ok (.aload_n 0, 1) := by decide +kernel
theorem dX8_pay_51 : decode cX8_pay 51 = .ok (.iload_n 1, 1) := by decide +kernel
theorem dX8_pay_52 : decode cX8_pay 52 = .ok (.iload_n 2, 1) := by decide +kernel
theorem dX8_pay_53 : decode cX8_pay 53 = .ok (.iload_n 3, 1) := by decide +kernel
theorem dX8_pay_54 : decode cX8_pay 54 = .ok (.invokevirtual 175, 3) := by decide +kernel
theorem dX8_pay_57 : decode cX8_pay 57 = .ok (.aload_n 0, 1) := by decide +kernel
theorem dX8_pay_58 : decode cX8_pay 58 = .ok (.invokevirtual 221, 3) := by decide +kernel
theorem dX8_pay_61 : decode cX8_pay 61 = .ok (.aload_n 0, 1) := by decide +kernel
theorem dX8_pay_62 : decode cX8_pay 62 = .ok (.iload_n 1, 1) := by decide +kernel
theorem dX8_pay_63 : decode cX8_pay 63 = .ok (.iload_n 2, 1) := by decide +kernel
theorem dX8_pay_64 : decode cX8_pay 64 = .ok (.invokevirtual 149, 3) := by decide +kernel
theorem dX8_pay_67 : decode cX8_pay 67 = .ok (.ireturn, 1) := by decide +kernel
set_option maxRecDepth 20000 in
theorem ggX8_days_X8_in : GoodIn wsX8_days wsX8_in := goodIn_r _ [7] (by decide +kernel) (by decide +kernel)
set_option maxRecDepth 20000 in
theorem gX8_days_X8_in : GoodIn wsX8_days (va_wsS RX8 72 yX8_in wsX8_in) := goodIn_app (goodIn_of _ (by decide +kernel)) ggX8_days_X8_in
set_option maxRecDepth 20000 in
theorem ggX8_days_X8_starts : GoodIn wsX8_days wsX8_starts := goodIn_r _ [11, 12, 2, 57, 58, 59, 60, 61, 62, 63, 64, 65, 66, 67, 68, 69, 70, 71, 72, 73, 74, 75, 76, 77, 78, 79, 80, 81, 82, 83, 84, 85, 86] (by decide +kernel) (by decide +kernel)
set_option maxRecDepth 20000 in
theorem gX8_days_X8_starts : GoodIn wsX8_days (wsV RX8 188 RX8 yX8_starts wsX8_starts) := goodIn_app (goodIn_of _ (by decide +kernel)) ggX8_days_X8_starts
set_option maxRecDepth 20000 in
theorem ggX8_days_X8_daysGo : GoodIn wsX8_days wsX8_daysGo := goodIn_r _ [16, 3, 17, 18, 19, 6, 20, 21, 12, 22, 23, 24, 25, 26, 27, 28, 29, 30, 31, 32, 33, 34, 35, 36, 37, 38, 39, 40, 41, 42, 43, 44, 45, 46, 47, 48, 49, 50, 51, 52, 57, 58, 59, 60, 61, 62, 63, 64, 65, 66, 67, 68, 69, 70, 71, 72, 73, 74, 75, 76, 77, 78, 79, 80, 81, 82, 83, 84, 85, 86] (by decide +kernel) (by decide +kernel)
set_option maxRecDepth 20000 in
theorem gX8_days_X8_daysGo : GoodIn wsX8_days (wsV RX8 226 RX8 yX8_daysGo wsX8_daysGo) := goodIn_app (goodIn_of _ (by decide +kernel)) ggX8_days_X8_daysGo
set_option maxRecDepth 20000 in
theorem ggX8_days_X8_settles : GoodIn wsX8_days wsX8_settles := goodIn_r _ [56, 2, 12, 57, 58, 59, 60, 61, 62, 63, 64, 65, 66, 67, 68, 69, 70, 71, 72, 73, 74, 75, 76, 77, 78, 79, 80, 81, 82, 83, 84, 85, 86] (by decide +kernel) (by decide +kernel)
set_option maxRecDepth 20000 in
theorem gX8_days_X8_settles : GoodIn wsX8_days (wsV RX8 221 RX8 yX8_settles wsX8_settles) := goodIn_app (goodIn_of _ (by decide +kernel)) ggX8_days_X8_settles
theorem dX8_days_0 : decode cX8_days 0 = .ok (.iload_n 1, 1) := by decide +kernel
theorem dX8_days_1 : decode cX8_days 1 = .ok (.i2l, 1) := by decide +kernel
theorem dX8_days_2 : decode cX8_days 2 = .ok (.lconst 0, 1) := by decide +kernel
theorem dX8_days_3 : decode cX8_days 3 = .ok (.ldc2_w 224, 3) := by decide +kernel
theorem dX8_days_6 : decode cX8_days 6 = .ok (.invokestatic 72, 3) := by decide +kernel
theorem dX8_days_9 : decode cX8_days 9 = .ok (.ifCond .ne 5, 3) := by decide +kernel
theorem dX8_days_12 : decode cX8_days 12 = .ok (.iconst (-1), 1) := by decide +kernel
theorem dX8_days_13 : decode cX8_days 13 = .ok (.ireturn, 1) := by decide +kernel
theorem dX8_days_14 : decode cX8_days 14 = .ok (.aload_n 0, 1) := by decide +kernel
theorem dX8_days_15 : decode cX8_days 15 = .ok (.getfield 7, 3) := by decide +kernel
theorem dX8_days_18 : decode cX8_days 18 = .ok (.bipush 40, 2) := by decide +kernel
theorem dX8_days_20 : decode cX8_days 20 = .ok (.iaload, 1) := by decide +kernel
theorem dX8_days_21 : decode cX8_days 21 = .ok (.iload_n 1, 1) := by decide +kernel
theorem dX8_days_22 : decode cX8_days 22 = .ok (.iadd, 1) := by decide +kernel
theorem dX8_days_23 : decode cX8_days 23 = .ok (.sipush 999, 3) := by decide +kernel
theorem dX8_days_26 : decode cX8_days 26 = .ok (.if_icmp .le 6, 3) := by decide +kernel
theorem dX8_days_29 : decode cX8_days 29 = .ok (.bipush (-3), 2) := by decide +kernel
theorem dX8_days_31 : decode cX8_days 31 = .ok (.ireturn, 1) := by decide +kernel
theorem dX8_days_32 : decode cX8_days 32 = .ok (.aload_n 0, 1) := by decide +kernel
theorem dX8_days_33 : decode cX8_days 33 = .ok (.invokevirtual 188, 3) := by decide +kernel
theorem dX8_days_36 : decode cX8_days 36 = .ok (.aload_n 0, 1) := by decide +kernel
theorem dX8_days_37 : decode cX8_days 37 = .ok (.iload_n 1, 1) := by decide +kernel
theorem dX8_days_38 : decode cX8_days 38 = .ok (.invokevirtual 226, 3) := by decide +kernel
theorem dX8_days_41 : decode cX8_days 41 = .ok (.aload_n 0, 1) := by decide +kernel
theorem dX8_days_42 : decode cX8_days 42 = .ok (.invokevirtual 221, 3) := by decide +kernel
theorem dX8_days_45 : decode cX8_days 45 = .ok (.aload_n 0, 1) := by decide +kernel
theorem dX8_days_46 : decode cX8_days 46 = .ok (.getfield 178, 3) := by decide +kernel
theorem dX8_days_49 : decode cX8_days 49 = .ok (.ireturn, 1) := by decide +kernel
set_option maxRecDepth 20000 in
theorem ggX8_isFar_X8_in : GoodIn wsX8_isFar wsX8_in := goodIn_r _ [5] (by decide +kernel) (by decide +kernel)
set_option maxRecDepth 20000 in
theorem gX8_isFar_X8_in : GoodIn wsX8_isFar (va_wsS RX8 72 yX8_in wsX8_in) := goodIn_app (goodIn_of _ (by decide +kernel)) ggX8_isFar_X8_in
theorem dX8_isFar_0 : decode cX8_isFar 0 = .ok (.iload_n 0, 1) := by decide +kernel
theorem dX8_isFar_1 : decode cX8_isFar 1 = .ok (.i2l, 1) := by decide +kernel
theorem dX8_isFar_2 : decode cX8_isFar 2 = .ok (.lconst 0, 1) := by decide +kernel
theorem dX8_isFar_3 : decode cX8_isFar 3 = .ok (.ldc2_w 229, 3) := by decide +kernel
theorem dX8_isFar_6 : decode cX8_isFar 6 = .ok (.invokestatic 72, 3) := by decide +kernel
theorem dX8_isFar_9 : decode cX8_isFar 9 = .ok (.ireturn, 1) := by decide +kernel
set_option maxRecDepth 20000 in
theorem ggX8_runs_X8_isFar : GoodIn wsX8_runs wsX8_isFar := goodIn_r _ [5, 6, 7, 8, 4, 9] (by decide +kernel) (by decide +kernel)
set_option maxRecDepth 20000 in
theorem gX8_runs_X8_isFar : GoodIn wsX8_runs (va_wsS RX8 231 yX8_isFar wsX8_isFar) := goodIn_app (goodIn_of _ (by decide +kernel)) ggX8_runs_X8_isFar
set_option maxRecDepth 20000 in
theorem ggX8_runs_X8_in : GoodIn wsX8_runs wsX8_in := goodIn_r _ [9] (by decide +kernel) (by decide +kernel)
set_option maxRecDepth 20000 in
theorem gX8_runs_X8_in : GoodIn wsX8_runs (va_wsS RX8 72 yX8_in wsX8_in) := goodIn_app (goodIn_of _ (by decide +kernel)) ggX8_runs_X8_in
set_option maxRecDepth 20000 in
theorem ggX8_runs_X8_starts : GoodIn wsX8_runs wsX8_starts := goodIn_r _ [13, 14, 15, 68, 69, 70, 71, 72, 73, 74, 75, 76, 77, 78, 79, 80, 81, 82, 83, 84, 85, 86, 87, 88, 89, 90, 91, 92, 93, 94, 95, 96, 97] (by decide +kernel) (by decide +kernel)
set_option maxRecDepth 20000 in
theorem gX8_runs_X8_starts : GoodIn wsX8_runs (wsV RX8 188 RX8 yX8_starts wsX8_starts) := goodIn_app (goodIn_of _ (by decide +kernel)) ggX8_runs_X8_starts
set_option maxRecDepth 20000 in
theorem ggX8_runs_X8_allOwed : GoodIn wsX8_runs wsX8_allOwed := goodIn_r _ [19, 20, 21, 22, 23, 4, 24, 25, 26, 27, 28, 14, 68, 69, 70, 71, 72, 73, 74, 75, 76, 77, 78, 79, 80, 81, 82, 83, 84, 85, 86, 87, 88, 89, 90, 91, 92, 93, 94, 95, 96, 97] (by decide +kernel) (by decide +kernel)
set_option maxRecDepth 20000 in
theorem gX8_runs_X8_allOwed : GoodIn wsX8_runs (wsV RX8 194 RX8 yX8_allOwed wsX8_allOwed) := goodIn_app (goodIn_of _ (by decide +kernel)) ggX8_runs_X8_allOwed
set_option maxRecDepth 20000 in
theorem ggX8_runs_X8_dayGoes : GoodIn wsX8_runs wsX8_dayGoes := goodIn_r _ [32, 20, 14, 33, 34, 35, 36, 4, 37, 38, 39, 40, 41, 42, 43, 44, 45, 46, 47, 48, 49, 50, 51, 52, 21, 22, 23, 24, 25, 26, 27, 28, 53, 54, 55, 56, 68, 69, 70, 71, 72, 73, 74, 75, 76, 77, 78, 79, 80, 81, 82, 83, 84, 85, 86, 87, 88, 89, 90, 91, 92, 93, 94, 95, 96, 97] (by decide +kernel) (by decide +kernel)
set_option maxRecDepth 20000 in
theorem gX8_runs_X8_dayGoes : GoodIn wsX8_runs (wsV RX8 181 RX8 yX8_dayGoes wsX8_dayGoes) := goodIn_app (goodIn_of _ (by decide +kernel)) ggX8_runs_X8_dayGoes
set_option maxRecDepth 20000 in
theorem ggX8_runs_X8_riding : GoodIn wsX8_runs wsX8_riding := goodIn_r _ [60, 20, 21, 22, 23, 4, 24, 25, 26, 27, 28, 14, 61, 62, 63, 68, 69, 70, 71, 72, 73, 74, 75, 76, 77, 78, 79, 80, 81, 82, 83, 84, 85, 86, 87, 88, 89, 90, 91, 92, 93, 94, 95, 96, 97] (by decide +kernel) (by decide +kernel)
set_option maxRecDepth 20000 in
theorem gX8_runs_X8_riding : GoodIn wsX8_runs (wsV RX8 191 RX8 yX8_riding wsX8_riding) := goodIn_app (goodIn_of _ (by decide +kernel)) ggX8_runs_X8_riding
set_option maxRecDepth 20000 in
theorem ggX8_runs_X8_allMoney : GoodIn wsX8_runs wsX8_allMoney := goodIn_r _ [67, 20, 34, 35, 36, 4, 37, 14, 68, 69, 70, 71, 72, 73, 74, 75, 76, 77, 78, 79, 80, 81, 82, 83, 84, 85, 86, 87, 88, 89, 90, 91, 92, 93, 94, 95, 96, 97] (by decide +kernel) (by decide +kernel)
set_option maxRecDepth 20000 in
theorem gX8_runs_X8_allMoney : GoodIn wsX8_runs (wsV RX8 197 RX8 yX8_allMoney wsX8_allMoney) := goodIn_app (goodIn_of _ (by decide +kernel)) ggX8_runs_X8_allMoney
theorem dX8_runs_0 : decode cX8_runs 0 = .ok (.iload_n 1, 1) := by decide +kernel
theorem dX8_runs_1 : decode cX8_runs 1 = .ok (.invokestatic 231, 3) := by decide +kernel
theorem dX8_runs_4 : decode cX8_runs 4 = .ok (.ifCond .eq 15, 3) := by decide +kernel
theorem dX8_runs_7 : decode cX8_runs 7 = .ok (.iload_n 2, 1) := by decide +kernel
theorem dX8_runs_8 : decode cX8_runs 8 = .ok (.i2l, 1) := by decide +kernel
theorem dX8_runs_9 : decode cX8_runs 9 = .ok (.lconst 0, 1) := by decide +kernel
theorem dX8_runs_10 : decode cX8_runs 10 = .ok (.ldc2_w 207, 3) := by decide +kernel
theorem dX8_runs_13 : decode cX8_runs 13 = .ok (.invokestatic 72, 3) := by decide +kernel
theorem dX8_runs_16 : decode cX8_runs 16 = .ok (.ifCond .ne 5, 3) := by decide +kernel
theorem dX8_runs_19 : decode cX8_runs 19 = .ok (.iconst (-1), 1) := by decide +kernel
theorem dX8_runs_20 : decode cX8_runs 20 = .ok (.ireturn, 1) := by decide +kernel
theorem dX8_runs_21 : decode cX8_runs 21 = .ok (.bipush (-4), 2) := by decide +kernel
theorem dX8_runs_23 : decode cX8_runs 23 = .ok (.istore_n 3, 1) := by decide +kernel
theorem dX8_runs_24 : decode cX8_runs 24 = .ok (.aload_n 0, 1) := by decide +kernel
theorem dX8_runs_25 : decode cX8_runs 25 = .ok (.invokevirtual 188, 3) := by decide +kernel
theorem dX8_runs_28 : decode cX8_runs 28 = .ok (.iconst 0, 1) := by decide +kernel
theorem dX8_runs_29 : decode cX8_runs 29 = .ok (.istore 4, 2) := by decide +kernel
theorem dX8_runs_31 : decode cX8_runs 31 = .ok (.iload 4, 2) := by decide +kernel
theorem dX8_runs_33 : decode cX8_runs 33 = .ok (.iload_n 1, 1) := by decide +kernel
theorem dX8_runs_34 : decode cX8_runs 34 = .ok (.if_icmp .gt 39, 3) := by decide +kernel
theorem dX8_runs_37 : decode cX8_runs 37 = .ok (.iload_n 3, 1) := by decide +kernel
theorem dX8_runs_38 : decode cX8_runs 38 = .ok (.bipush (-4), 2) := by decide +kernel
theorem dX8_runs_40 : decode cX8_runs 40 = .ok (.if_icmp .ne 15, 3) := by decide +kernel
theorem dX8_runs_43 : decode cX8_runs 43 = .ok (.aload_n 0, 1) := by decide +kernel
theorem dX8_runs_44 : decode cX8_runs 44 = .ok (.invokevirtual 194, 3) := by decide +kernel
theorem dX8_runs_47 : decode cX8_runs 47 = .ok (.ifCond .ne 8, 3) := by decide +kernel
theorem dX8_runs_50 : decode cX8_runs 50 = .ok (.iload 4, 2) := by decide +kernel
theorem dX8_runs_52 : decode cX8_runs 52 = .ok (.goto 4, 3) := by decide +kernel
theorem dX8_runs_55 : decode cX8_runs 55 = .ok (.iload_n 3, 1) := by decide +kernel
theorem dX8_runs_56 : decode cX8_runs 56 = .ok (.istore_n 3, 1) := by decide +kernel
theorem dX8_runs_57 : decode cX8_runs 57 = .ok (.iload 4, 2) := by decide +kernel
theorem dX8_runs_59 : decode cX8_runs 59 = .ok (.iload_n 1, 1) := by decide +kernel
theorem dX8_runs_60 : decode cX8_runs 60 = .ok (.if_icmp .ge 7, 3) := by decide +kernel
theorem dX8_runs_63 : decode cX8_runs 63 = .ok (.aload_n 0, 1) := by decide +kernel
theorem dX8_runs_64 : decode cX8_runs 64 = .ok (.invokevirtual 181, 3) := by decide +kernel
theorem dX8_runs_67 : decode cX8_runs 67 = .ok (.iinc 4 1, 3) := by decide +kernel
theorem dX8_runs_70 : decode cX8_runs 70 = .ok (.goto (-39), 3) := by decide +kernel
theorem dX8_runs_73 : decode cX8_runs 73 = .ok (.iload_n 2, 1) := by decide +kernel
theorem dX8_runs_74 : decode cX8_runs 74 = .ok (.ifCond .ne 10, 3) := by decide +kernel
theorem dX8_runs_77 : decode cX8_runs 77 = .ok (.aload_n 0, 1) := by decide +kernel
theorem dX8_runs_78 : decode cX8_runs 78 = .ok (.invokevirtual 194, 3) := by decide +kernel
theorem dX8_runs_81 : decode cX8_runs 81 = .ok (.goto 28, 3) := by decide +kernel
theorem dX8_runs_84 : decode cX8_runs 84 = .ok (.iload_n 2, 1) := by decide +kernel
theorem dX8_runs_85 : decode cX8_runs 85 = .ok (.iconst 1, 1) := by decide +kernel
theorem dX8_runs_86 : decode cX8_runs 86 = .ok (.if_icmp .ne 10, 3) := by decide +kernel
theorem dX8_runs_89 : decode cX8_runs 89 = .ok (.aload_n 0, 1) := by decide +kernel
theorem dX8_runs_90 : decode cX8_runs 90 = .ok (.invokevirtual 191, 3) := by decide +kernel
theorem dX8_runs_93 : decode cX8_runs 93 = .ok (.goto 16, 3) := by decide +kernel
theorem dX8_runs_96 : decode cX8_runs 96 = .ok (.iload_n 2, 1) := by decide +kernel
theorem dX8_runs_97 : decode cX8_runs 97 = .ok (.iconst 2, 1) := by decide +kernel
theorem dX8_runs_98 : decode cX8_runs 98 = .ok (.if_icmp .ne 10, 3) := by decide +kernel
theorem dX8_runs_101 : decode cX8_runs 101 = .ok (.aload_n 0, 1) := by decide +kernel
theorem dX8_runs_102 : decode cX8_runs 102 = .ok (.invokevirtual 197, 3) := by decide +kernel
theorem dX8_runs_105 : decode cX8_runs 105 = .ok (.goto 4, 3) := by decide +kernel
theorem dX8_runs_108 : decode cX8_runs 108 = .ok (.iload_n 3, 1) := by decide +kernel
theorem dX8_runs_109 : decode cX8_runs 109 = .ok (.ireturn, 1) := by decide +kernel
set_option maxRecDepth 20000 in
theorem ggX8_ahead_X8_isOne : GoodIn wsX8_ahead wsX8_isOne := goodIn_r _ [6, 7, 8, 9, 5, 10, 69, 70, 71, 72, 73, 74, 75, 76, 77, 78, 79, 80, 81, 82, 83, 84, 85, 86, 87, 88, 89, 90, 91, 92, 93, 94, 95, 96, 97, 98] (by decide +kernel) (by decide +kernel)
set_option maxRecDepth 20000 in
theorem gX8_ahead_X8_isOne : GoodIn wsX8_ahead (wsV RX8 145 RX8 yX8_isOne wsX8_isOne) := goodIn_app (goodIn_of _ (by decide +kernel)) ggX8_ahead_X8_isOne
set_option maxRecDepth 20000 in
theorem ggX8_ahead_X8_isFar : GoodIn wsX8_ahead wsX8_isFar := goodIn_r _ [13, 14, 8, 9, 5, 10] (by decide +kernel) (by decide +kernel)
set_option maxRecDepth 20000 in
theorem gX8_ahead_X8_isFar : GoodIn wsX8_ahead (va_wsS RX8 231 yX8_isFar wsX8_isFar) := goodIn_app (goodIn_of _ (by decide +kernel)) ggX8_ahead_X8_isFar
set_option maxRecDepth 20000 in
theorem ggX8_ahead_X8_in : GoodIn wsX8_ahead wsX8_in := goodIn_r _ [10] (by decide +kernel) (by decide +kernel)
set_option maxRecDepth 20000 in
theorem gX8_ahead_X8_in : GoodIn wsX8_ahead (va_wsS RX8 72 yX8_in wsX8_in) := goodIn_app (goodIn_of _ (by decide +kernel)) ggX8_ahead_X8_in
set_option maxRecDepth 20000 in
theorem ggX8_ahead_X8_starts : GoodIn wsX8_ahead wsX8_starts := goodIn_r _ [18, 19, 20, 69, 70, 71, 72, 73, 74, 75, 76, 77, 78, 79, 80, 81, 82, 83, 84, 85, 86, 87, 88, 89, 90, 91, 92, 93, 94, 95, 96, 97, 98] (by decide +kernel) (by decide +kernel)
set_option maxRecDepth 20000 in
theorem gX8_ahead_X8_starts : GoodIn wsX8_ahead (wsV RX8 188 RX8 yX8_starts wsX8_starts) := goodIn_app (goodIn_of _ (by decide +kernel)) ggX8_ahead_X8_starts
set_option maxRecDepth 20000 in
theorem ggX8_ahead_X8_daysGo : GoodIn wsX8_ahead wsX8_daysGo := goodIn_r _ [24, 25, 26, 27, 28, 5, 29, 7, 19, 30, 31, 32, 33, 34, 35, 36, 37, 38, 39, 40, 41, 42, 43, 44, 45, 46, 47, 48, 49, 50, 51, 52, 53, 54, 55, 56, 57, 58, 59, 60, 69, 70, 71, 72, 73, 74, 75, 76, 77, 78, 79, 80, 81, 82, 83, 84, 85, 86, 87, 88, 89, 90, 91, 92, 93, 94, 95, 96, 97, 98] (by decide +kernel) (by decide +kernel)
set_option maxRecDepth 20000 in
theorem gX8_ahead_X8_daysGo : GoodIn wsX8_ahead (wsV RX8 226 RX8 yX8_daysGo wsX8_daysGo) := goodIn_app (goodIn_of _ (by decide +kernel)) ggX8_ahead_X8_daysGo
set_option maxRecDepth 20000 in
theorem ggX8_ahead_X8_owesAll : GoodIn wsX8_ahead wsX8_owesAll := goodIn_r _ [52, 7, 53, 54, 55, 5, 56, 19, 69, 70, 71, 72, 73, 74, 75, 76, 77, 78, 79, 80, 81, 82, 83, 84, 85, 86, 87, 88, 89, 90, 91, 92, 93, 94, 95, 96, 97, 98] (by decide +kernel) (by decide +kernel)
set_option maxRecDepth 20000 in
theorem gX8_ahead_X8_owesAll : GoodIn wsX8_ahead (wsV RX8 155 RX8 yX8_owesAll wsX8_owesAll) := goodIn_app (goodIn_of _ (by decide +kernel)) ggX8_ahead_X8_owesAll
set_option maxRecDepth 20000 in
theorem ggX8_ahead_X8_of : GoodIn wsX8_ahead wsX8_of := goodIn_r _ [33, 19, 69, 70, 71, 72, 73, 74, 75, 76, 77, 78, 79, 80, 81, 82, 83, 84, 85, 86, 87, 88, 89, 90, 91, 92, 93, 94, 95, 96, 97, 98] (by decide +kernel) (by decide +kernel)
set_option maxRecDepth 20000 in
theorem gX8_ahead_X8_of : GoodIn wsX8_ahead (wsV RX8 158 RX8 yX8_of wsX8_of) := goodIn_app (goodIn_of _ (by decide +kernel)) ggX8_ahead_X8_of
set_option maxRecDepth 20000 in
theorem ggX8_ahead_X8_height : GoodIn wsX8_ahead wsX8_height := goodIn_r _ [64, 65, 66, 67, 5, 68, 7, 53, 54, 55, 56, 19, 49, 50, 51, 52, 30, 31, 32, 33, 69, 70, 71, 72, 73, 74, 75, 76, 77, 78, 79, 80, 81, 82, 83, 84, 85, 86, 87, 88, 89, 90, 91, 92, 93, 94, 95, 96, 97, 98] (by decide +kernel) (by decide +kernel)
set_option maxRecDepth 20000 in
theorem gX8_ahead_X8_height : GoodIn wsX8_ahead (wsV RX8 200 RX8 yX8_height wsX8_height) := goodIn_app (goodIn_of _ (by decide +kernel)) ggX8_ahead_X8_height
theorem dX8_ahead_0 : decode cX8_ahead 0 = .ok (.aload_n 0, 1) := by decide +kernel
theorem dX8_ahead_1 : decode cX8_ahead 1 = .ok (.iload_n 1, 1) := by decide +kernel
theorem dX8_ahead_2 : decode cX8_ahead 2 = .ok (.invokevirtual 145, 3) := by decide +kernel
theorem dX8_ahead_5 : decode cX8_ahead 5 = .ok (.ifCond .eq 22, 3) := by decide +kernel
theorem dX8_ahead_8 : decode cX8_ahead 8 = .ok (.iload_n 2, 1) := by decide +kernel
theorem dX8_ahead_9 : decode cX8_ahead 9 = .ok (.invokestatic 231, 3) := by decide +kernel
theorem dX8_ahead_12 : decode cX8_ahead 12 = .ok (.ifCond .eq 15, 3) := by decide +kernel
theorem dX8_ahead_15 : decode cX8_ahead 15 = .ok (.iload_n 3, 1) := by decide +kernel
theorem dX8_ahead_16 : decode cX8_ahead 16 = .ok (.i2l, 1) := by decide +kernel
theorem dX8_ahead_17 : decode cX8_ahead 17 = .ok (.lconst 0, 1) := by decide +kernel
theorem dX8_ahead_18 : decode cX8_ahead 18 = .ok (.ldc2_w 234, 3) := by decide +kernel
theorem dX8_ahead_21 : decode cX8_ahead 21 = .ok (.invokestatic 72, 3) := by decide +kernel
theorem dX8_ahead_24 : decode cX8_ahead 24 = .ok (.ifCond .ne 5, 3) := by decide +kernel
theorem dX8_ahead_27 : decode cX8_ahead 27 = .ok (.iconst (-1), 1) := by decide +kernel
theorem dX8_ahead_28 : decode cX8_ahead 28 = .ok (.ireturn, 1) := by decide +kernel
theorem dX8_ahead_29 : decode cX8_ahead 29 = .ok (.aload_n 0, 1) := by decide +kernel
theorem dX8_ahead_30 : decode cX8_ahead 30 = .ok (.invokevirtual 188, 3) := by decide +kernel
theorem dX8_ahead_33 : decode cX8_ahead 33 = .ok (.aload_n 0, 1) := by decide +kernel
theorem dX8_ahead_34 : decode cX8_ahead 34 = .ok (.iload_n 2, 1) := by decide +kernel
theorem dX8_ahead_35 : decode cX8_ahead 35 = .ok (.invokevirtual 226, 3) := by decide +kernel
theorem dX8_ahead_38 : decode cX8_ahead 38 = .ok (.iload_n 3, 1) := by decide +kernel
theorem dX8_ahead_39 : decode cX8_ahead 39 = .ok (.ifCond .ne 11, 3) := by decide +kernel
theorem dX8_ahead_42 : decode cX8_ahead 42 = .ok (.aload_n 0, 1) := by decide +kernel
theorem dX8_ahead_43 : decode cX8_ahead 43 = .ok (.iload_n 1, 1) := by decide +kernel
theorem dX8_ahead_44 : decode cX8_ahead 44 = .ok (.invokevirtual 155, 3) := by decide +kernel
theorem dX8_ahead_47 : decode cX8_ahead 47 = .ok (.goto 22, 3) := by decide +kernel
theorem dX8_ahead_50 : decode cX8_ahead 50 = .ok (.iload_n 3, 1) := by decide +kernel
theorem dX8_ahead_51 : decode cX8_ahead 51 = .ok (.iconst 1, 1) := by decide +kernel
theorem dX8_ahead_52 : decode cX8_ahead 52 = .ok (.if_icmp .ne 12, 3) := by decide +kernel
theorem dX8_ahead_55 : decode cX8_ahead 55 = .ok (.aload_n 0, 1) := by decide +kernel
theorem dX8_ahead_56 : decode cX8_ahead 56 = .ok (.iload_n 1, 1) := by decide +kernel
theorem dX8_ahead_57 : decode cX8_ahead 57 = .ok (.iconst 1, 1) := by decide +kernel
theorem dX8_ahead_58 : decode cX8_ahead 58 = .ok (.invokevirtual 158, 3) := by decide +kernel
theorem dX8_ahead_61 : decode cX8_ahead 61 = .ok (.goto 8, 3) := by decide +kernel
theorem dX8_ahead_64 : decode cX8_ahead 64 = .ok (.aload_n 0, 1) := by decide +kernel
theorem dX8_ahead_65 : decode cX8_ahead 65 = .ok (.iload_n 1, 1) := by decide +kernel
theorem dX8_ahead_66 : decode cX8_ahead 66 = .ok (.invokevirtual 200, 3) := by decide +kernel
theorem dX8_ahead_69 : decode cX8_ahead 69 = .ok (.ireturn, 1) := by decide +kernel
set_option maxRecDepth 20000 in
theorem ggX8_daysTo_X8_owesAll : GoodIn wsX8_daysTo wsX8_owesAll := goodIn_r _ [5, 6, 7, 8, 9, 4, 10, 11, 40, 41, 42, 43, 44, 45, 46, 47, 48, 49, 50, 51, 52, 53, 54, 55, 56, 57, 58, 59, 60, 61, 62, 63, 64, 65, 66, 67, 68, 69] (by decide +kernel) (by decide +kernel)
set_option maxRecDepth 20000 in
theorem gX8_daysTo_X8_owesAll : GoodIn wsX8_daysTo (wsV RX8 155 RX8 yX8_owesAll wsX8_owesAll) := goodIn_app (goodIn_of _ (by decide +kernel)) ggX8_daysTo_X8_owesAll
set_option maxRecDepth 20000 in
theorem ggX8_daysTo_X8_dayGoes : GoodIn wsX8_daysTo wsX8_dayGoes := goodIn_r _ [15, 6, 11, 16, 17, 18, 19, 4, 20, 21, 22, 23, 24, 25, 26, 27, 28, 29, 30, 31, 32, 33, 34, 35, 1, 2, 3, 5, 7, 8, 9, 10, 36, 37, 38, 39, 40, 41, 42, 43, 44, 45, 46, 47, 48, 49, 50, 51, 52, 53, 54, 55, 56, 57, 58, 59, 60, 61, 62, 63, 64, 65, 66, 67, 68, 69] (by decide +kernel) (by decide +kernel)
set_option maxRecDepth 20000 in
theorem gX8_daysTo_X8_dayGoes : GoodIn wsX8_daysTo (wsV RX8 181 RX8 yX8_dayGoes wsX8_dayGoes) := goodIn_app (goodIn_of _ (by decide +kernel)) ggX8_daysTo_X8_dayGoes
theorem dX8_daysTo_0 : decode cX8_daysTo 0 = .ok (.iconst 0, 1) := by decide +kernel
theorem dX8_daysTo_1 : decode cX8_daysTo 1 = .ok (.istore_n 2, 1) := by decide +kernel
theorem dX8_daysTo_2 : decode cX8_daysTo 2 = .ok (.iload_n 2, 1) := by decide +kernel
theorem dX8_daysTo_3 : decode cX8_daysTo 3 = .ok (.bipush 60, 2) := by decide +kernel
theorem dX8_daysTo_5 : decode cX8_daysTo 5 = .ok (.if_icmp .gt 23, 3) := by decide +kernel
theorem dX8_daysTo_8 : decode cX8_daysTo 8 = .ok (.aload_n 0, 1) := by decide +kernel
theorem dX8_daysTo_9 : decode cX8_daysTo 9 = .ok (.iload_n 1, 1) := by decide +kernel
theorem dX8_daysTo_10 : decode cX8_daysTo 10 = .ok (.invokevirtual 155, 3) := by decide +kernel
theorem dX8_daysTo_13 : decode cX8_daysTo 13 = .ok (.ifCond .ne 5, 3) := by decide +kernel
theorem dX8_daysTo_16 : decode cX8_daysTo 16 = .ok (.iload_n 2, 1) := by decide +kernel
theorem dX8_daysTo_17 : decode cX8_daysTo 17 = .ok (.ireturn, 1) := by decide +kernel
theorem dX8_daysTo_18 : decode cX8_daysTo 18 = .ok (.aload_n 0, 1) := by decide +kernel
theorem dX8_daysTo_19 : decode cX8_daysTo 19 = .ok (.invokevirtual 181, 3) := by decide +kernel
theorem dX8_daysTo_22 : decode cX8_daysTo 22 = .ok (.iinc 2 1, 3) := by decide +kernel
theorem dX8_daysTo_25 : decode cX8_daysTo 25 = .ok (.goto (-23), 3) := by decide +kernel
theorem dX8_daysTo_28 : decode cX8_daysTo 28 = .ok (.bipush (-4), 2) := by decide +kernel
theorem dX8_daysTo_30 : decode cX8_daysTo 30 = .ok (.ireturn, 1) := by decide +kernel
set_option maxRecDepth 20000 in
theorem ggX8_rides_X8_isOne : GoodIn wsX8_rides wsX8_isOne := goodIn_r _ [5, 6, 7, 8, 4, 9, 56, 57, 58, 59, 60, 61, 62, 63, 64, 65, 66, 67, 68, 69, 70, 71, 72, 73, 74, 75, 76, 77, 78, 79, 80, 81, 82, 83, 84, 85] (by decide +kernel) (by decide +kernel)
set_option maxRecDepth 20000 in
theorem gX8_rides_X8_isOne : GoodIn wsX8_rides (wsV RX8 145 RX8 yX8_isOne wsX8_isOne) := goodIn_app (goodIn_of _ (by decide +kernel)) ggX8_rides_X8_isOne
set_option maxRecDepth 20000 in
theorem ggX8_rides_X8_starts : GoodIn wsX8_rides wsX8_starts := goodIn_r _ [13, 14, 15, 56, 57, 58, 59, 60, 61, 62, 63, 64, 65, 66, 67, 68, 69, 70, 71, 72, 73, 74, 75, 76, 77, 78, 79, 80, 81, 82, 83, 84, 85] (by decide +kernel) (by decide +kernel)
set_option maxRecDepth 20000 in
theorem gX8_rides_X8_starts : GoodIn wsX8_rides (wsV RX8 188 RX8 yX8_starts wsX8_starts) := goodIn_app (goodIn_of _ (by decide +kernel)) ggX8_rides_X8_starts
set_option maxRecDepth 20000 in
theorem ggX8_rides_X8_daysTo : GoodIn wsX8_rides wsX8_daysTo := goodIn_r _ [19, 20, 21, 22, 4, 23, 6, 24, 25, 26, 27, 14, 28, 29, 30, 31, 32, 33, 34, 35, 36, 37, 38, 39, 40, 41, 42, 43, 44, 45, 46, 47, 48, 49, 50, 51, 52, 53, 54, 55, 56, 57, 58, 59, 60, 61, 62, 63, 64, 65, 66, 67, 68, 69, 70, 71, 72, 73, 74, 75, 76, 77, 78, 79, 80, 81, 82, 83, 84, 85] (by decide +kernel) (by decide +kernel)
set_option maxRecDepth 20000 in
theorem gX8_rides_X8_daysTo : GoodIn wsX8_rides (wsV RX8 236 RX8 yX8_daysTo wsX8_daysTo) := goodIn_app (goodIn_of _ (by decide +kernel)) ggX8_rides_X8_daysTo
theorem dX8_rides_0 : decode cX8_rides 0 = .ok (.aload_n 0, 1) := by decide +kernel
theorem dX8_rides_1 : decode cX8_rides 1 = .ok (.iload_n 1, 1) := by decide +kernel
theorem dX8_rides_2 : decode cX8_rides 2 = .ok (.invokevirtual 145, 3) := by decide +kernel
theorem dX8_rides_5 : decode cX8_rides 5 = .ok (.ifCond .ne 5, 3) := by decide +kernel
theorem dX8_rides_8 : decode cX8_rides 8 = .ok (.iconst (-1), 1) := by decide +kernel
theorem dX8_rides_9 : decode cX8_rides 9 = .ok (.ireturn, 1) := by decide +kernel
theorem dX8_rides_10 : decode cX8_rides 10 = .ok (.aload_n 0, 1) := by decide +kernel
theorem dX8_rides_11 : decode cX8_rides 11 = .ok (.invokevirtual 188, 3) := by decide +kernel
theorem dX8_rides_14 : decode cX8_rides 14 = .ok (.aload_n 0, 1) := by decide +kernel
theorem dX8_rides_15 : decode cX8_rides 15 = .ok (.iload_n 1, 1) := by decide +kernel
theorem dX8_rides_16 : decode cX8_rides 16 = .ok (.invokevirtual 236, 3) := by decide +kernel
theorem dX8_rides_19 : decode cX8_rides 19 = .ok (.ireturn, 1) := by decide +kernel
set_option maxRecDepth 20000 in
theorem ggX8_netOf_X8_owesAll : GoodIn wsX8_netOf wsX8_owesAll := goodIn_r _ [5, 6, 7, 8, 9, 4, 10, 11, 16, 17, 18, 19, 20, 21, 22, 23, 24, 25, 26, 27, 28, 29, 30, 31, 32, 33, 34, 35, 36, 37, 38, 39, 40, 41, 42, 43, 44, 45] (by decide +kernel) (by decide +kernel)
set_option maxRecDepth 20000 in
theorem gX8_netOf_X8_owesAll : GoodIn wsX8_netOf (wsV RX8 155 RX8 yX8_owesAll wsX8_owesAll) := goodIn_app (goodIn_of _ (by decide +kernel)) ggX8_netOf_X8_owesAll
set_option maxRecDepth 20000 in
theorem ggX8_netOf_X8_isOwed : GoodIn wsX8_netOf wsX8_isOwed := goodIn_r _ [15, 6, 7, 8, 9, 4, 10, 11, 16, 17, 18, 19, 20, 21, 22, 23, 24, 25, 26, 27, 28, 29, 30, 31, 32, 33, 34, 35, 36, 37, 38, 39, 40, 41, 42, 43, 44, 45] (by decide +kernel) (by decide +kernel)
set_option maxRecDepth 20000 in
theorem gX8_netOf_X8_isOwed : GoodIn wsX8_netOf (wsV RX8 152 RX8 yX8_isOwed wsX8_isOwed) := goodIn_app (goodIn_of _ (by decide +kernel)) ggX8_netOf_X8_isOwed
theorem dX8_netOf_0 : decode cX8_netOf 0 = .ok (.aload_n 0, 1) := by decide +kernel
theorem dX8_netOf_1 : decode cX8_netOf 1 = .ok (.iload_n 1, 1) := by decide +kernel
theorem dX8_netOf_2 : decode cX8_netOf 2 = .ok (.invokevirtual 155, 3) := by decide +kernel
theorem dX8_netOf_5 : decode cX8_netOf 5 = .ok (.aload_n 0, 1) := by decide +kernel
theorem dX8_netOf_6 : decode cX8_netOf 6 = .ok (.iload_n 1, 1) := by decide +kernel
theorem dX8_netOf_7 : decode cX8_netOf 7 = .ok (.invokevirtual 152, 3) := by decide +kernel
theorem dX8_netOf_10 : decode cX8_netOf 10 = .ok (.isub, 1) := by decide +kernel
theorem dX8_netOf_11 : decode cX8_netOf 11 = .ok (.ireturn, 1) := by decide +kernel
set_option maxRecDepth 20000 in
theorem ggX8_net_X8_isOne : GoodIn wsX8_net wsX8_isOne := goodIn_r _ [5, 6, 7, 8, 4, 9, 32, 33, 34, 35, 36, 37, 38, 39, 40, 41, 42, 43, 44, 45, 46, 47, 48, 49, 50, 51, 52, 53, 54, 55, 56, 57, 58, 59, 60, 61] (by decide +kernel) (by decide +kernel)
set_option maxRecDepth 20000 in
theorem gX8_net_X8_isOne : GoodIn wsX8_net (wsV RX8 145 RX8 yX8_isOne wsX8_isOne) := goodIn_app (goodIn_of _ (by decide +kernel)) ggX8_net_X8_isOne
set_option maxRecDepth 20000 in
theorem ggX8_net_X8_starts : GoodIn wsX8_net wsX8_starts := goodIn_r _ [13, 14, 15, 32, 33, 34, 35, 36, 37, 38, 39, 40, 41, 42, 43, 44, 45, 46, 47, 48, 49, 50, 51, 52, 53, 54, 55, 56, 57, 58, 59, 60, 61] (by decide +kernel) (by decide +kernel)
set_option maxRecDepth 20000 in
theorem gX8_net_X8_starts : GoodIn wsX8_net (wsV RX8 188 RX8 yX8_starts wsX8_starts) := goodIn_app (goodIn_of _ (by decide +kernel)) ggX8_net_X8_starts
set_option maxRecDepth 20000 in
theorem ggX8_net_X8_netOf : GoodIn wsX8_net wsX8_netOf := goodIn_r _ [19, 20, 21, 22, 4, 23, 6, 24, 25, 26, 27, 14, 28, 29, 30, 31, 32, 33, 34, 35, 36, 37, 38, 39, 40, 41, 42, 43, 44, 45, 46, 47, 48, 49, 50, 51, 52, 53, 54, 55, 56, 57, 58, 59, 60, 61] (by decide +kernel) (by decide +kernel)
set_option maxRecDepth 20000 in
theorem gX8_net_X8_netOf : GoodIn wsX8_net (wsV RX8 239 RX8 yX8_netOf wsX8_netOf) := goodIn_app (goodIn_of _ (by decide +kernel)) ggX8_net_X8_netOf
theorem dX8_net_0 : decode cX8_net 0 = .ok (.aload_n 0, 1) := by decide +kernel
theorem dX8_net_1 : decode cX8_net 1 = .ok (.iload_n 1, 1) := by decide +kernel
theorem dX8_net_2 : decode cX8_net 2 = .ok (.invokevirtual 145, 3) := by decide +kernel
theorem dX8_net_5 : decode cX8_net 5 = .ok (.ifCond .ne 5, 3) := by decide +kernel
theorem dX8_net_8 : decode cX8_net 8 = .ok (.iconst (-1), 1) := by decide +kernel
theorem dX8_net_9 : decode cX8_net 9 = .ok (.ireturn, 1) := by decide +kernel
theorem dX8_net_10 : decode cX8_net 10 = .ok (.aload_n 0, 1) := by decide +kernel
theorem dX8_net_11 : decode cX8_net 11 = .ok (.invokevirtual 188, 3) := by decide +kernel
theorem dX8_net_14 : decode cX8_net 14 = .ok (.sipush 1000, 3) := by decide +kernel
theorem dX8_net_17 : decode cX8_net 17 = .ok (.aload_n 0, 1) := by decide +kernel
theorem dX8_net_18 : decode cX8_net 18 = .ok (.iload_n 1, 1) := by decide +kernel
theorem dX8_net_19 : decode cX8_net 19 = .ok (.invokevirtual 239, 3) := by decide +kernel
theorem dX8_net_22 : decode cX8_net 22 = .ok (.iadd, 1) := by decide +kernel
theorem dX8_net_23 : decode cX8_net 23 = .ok (.ireturn, 1) := by decide +kernel
set_option maxRecDepth 20000 in
theorem ggX8_least_X8_starts : GoodIn wsX8_least wsX8_starts := goodIn_r _ [6, 7, 8, 25, 26, 27, 28, 29, 30, 31, 32, 33, 34, 35, 36, 37, 38, 39, 40, 41, 42, 43, 44, 45, 46, 47, 48, 49, 50, 51, 52, 53, 54] (by decide +kernel) (by decide +kernel)
set_option maxRecDepth 20000 in
theorem gX8_least_X8_starts : GoodIn wsX8_least (wsV RX8 188 RX8 yX8_starts wsX8_starts) := goodIn_app (goodIn_of _ (by decide +kernel)) ggX8_least_X8_starts
set_option maxRecDepth 20000 in
theorem ggX8_least_X8_netOf : GoodIn wsX8_least wsX8_netOf := goodIn_r _ [12, 13, 14, 15, 5, 16, 1, 17, 18, 19, 20, 7, 21, 22, 23, 24, 25, 26, 27, 28, 29, 30, 31, 32, 33, 34, 35, 36, 37, 38, 39, 40, 41, 42, 43, 44, 45, 46, 47, 48, 49, 50, 51, 52, 53, 54] (by decide +kernel) (by decide +kernel)
set_option maxRecDepth 20000 in
theorem gX8_least_X8_netOf : GoodIn wsX8_least (wsV RX8 239 RX8 yX8_netOf wsX8_netOf) := goodIn_app (goodIn_of _ (by decide +kernel)) ggX8_least_X8_netOf
theorem dX8_least_0 : decode cX8_least 0 = .ok (.iconst 0, 1) := by decide +kernel
theorem dX8_least_1 : decode cX8_least 1 = .ok (.istore_n 1, 1) := by decide +kernel
theorem dX8_least_2 : decode cX8_least 2 = .ok (.aload_n 0, 1) := by decide +kernel
theorem dX8_least_3 : decode cX8_least 3 = .ok (.invokevirtual 188, 3) := by decide +kernel
theorem dX8_least_6 : decode cX8_least 6 = .ok (.iconst 0, 1) := by decide +kernel
theorem dX8_least_7 : decode cX8_least 7 = .ok (.istore_n 2, 1) := by decide +kernel
theorem dX8_least_8 : decode cX8_least 8 = .ok (.iload_n 2, 1) := by decide +kernel
theorem dX8_least_9 : decode cX8_least 9 = .ok (.aload_n 0, 1) := by decide +kernel
theorem dX8_least_10 : decode cX8_least 10 = .ok (.getfield 67, 3) := by decide +kernel
theorem dX8_least_13 : decode cX8_least 13 = .ok (.if_icmp .ge 29, 3) := by decide +kernel
theorem dX8_least_16 : decode cX8_least 16 = .ok (.iload_n 1, 1) := by decide +kernel
theorem dX8_least_17 : decode cX8_least 17 = .ok (.aload_n 0, 1) := by decide +kernel
theorem dX8_least_18 : decode cX8_least 18 = .ok (.iload_n 2, 1) := by decide +kernel
theorem dX8_least_19 : decode cX8_least 19 = .ok (.invokevirtual 239, 3) := by decide +kernel
theorem dX8_least_22 : decode cX8_least 22 = .ok (.ifCond .le 11, 3) := by decide +kernel
theorem dX8_least_25 : decode cX8_least 25 = .ok (.aload_n 0, 1) := by decide +kernel
theorem dX8_least_26 : decode cX8_least 26 = .ok (.iload_n 2, 1) := by decide +kernel
theorem dX8_least_27 : decode cX8_least 27 = .ok (.invokevirtual 239, 3) := by decide +kernel
theorem dX8_least_30 : decode cX8_least 30 = .ok (.goto 4, 3) := by decide +kernel
theorem dX8_least_33 : decode cX8_least 33 = .ok (.iconst 0, 1) := by decide +kernel
theorem dX8_least_34 : decode cX8_least 34 = .ok (.iadd, 1) := by decide +kernel
theorem dX8_least_35 : decode cX8_least 35 = .ok (.istore_n 1, 1) := by decide +kernel
theorem dX8_least_36 : decode cX8_least 36 = .ok (.iinc 2 1, 3) := by decide +kernel
theorem dX8_least_39 : decode cX8_least 39 = .ok (.goto (-31), 3) := by decide +kernel
theorem dX8_least_42 : decode cX8_least 42 = .ok (.iload_n 1, 1) := by decide +kernel
theorem dX8_least_43 : decode cX8_least 43 = .ok (.ireturn, 1) := by decide +kernel
set_option maxRecDepth 20000 in
theorem ggX8_clears_X8_debt : GoodIn wsX8_clears wsX8_debt := goodIn_r _ [7, 8, 12, 13, 14, 15, 16, 17, 18, 19, 20, 21, 22, 23, 24, 25, 26, 27, 28, 29, 30, 31, 32, 33, 34, 35, 36, 37, 38, 39, 40, 41] (by decide +kernel) (by decide +kernel)
set_option maxRecDepth 20000 in
theorem gX8_clears_X8_debt : GoodIn wsX8_clears (wsV RX8 149 RX8 yX8_debt wsX8_debt) := goodIn_app (goodIn_of _ (by decide +kernel)) ggX8_clears_X8_debt
set_option maxRecDepth 20000 in
theorem ggX8_clears_X8_lesser : GoodIn wsX8_clears wsX8_lesser := goodIn_r _ [11] (by decide +kernel) (by decide +kernel)
set_option maxRecDepth 20000 in
theorem gX8_clears_X8_lesser : GoodIn wsX8_clears (va_wsS RX8 161 yX8_lesser wsX8_lesser) := goodIn_app (goodIn_of _ (by decide +kernel)) ggX8_clears_X8_lesser
theorem dX8_clears_0 : decode cX8_clears 0 = .ok (.iload_n 1, 1) := by decide +kernel
theorem dX8_clears_1 : decode cX8_clears 1 = .ok (.istore_n 3, 1) := by decide +kernel
theorem dX8_clears_2 : decode cX8_clears 2 = .ok (.iconst 0, 1) := by decide +kernel
theorem dX8_clears_3 : decode cX8_clears 3 = .ok (.istore 4, 2) := by decide +kernel
theorem dX8_clears_5 : decode cX8_clears 5 = .ok (.iconst 1, 1) := by decide +kernel
theorem dX8_clears_6 : decode cX8_clears 6 = .ok (.istore 5, 2) := by decide +kernel
theorem dX8_clears_8 : decode cX8_clears 8 = .ok (.iload_n 2, 1) := by decide +kernel
theorem dX8_clears_9 : decode cX8_clears 9 = .ok (.iconst 1, 1) := by decide +kernel
theorem dX8_clears_10 : decode cX8_clears 10 = .ok (.isub, 1) := by decide +kernel
theorem dX8_clears_11 : decode cX8_clears 11 = .ok (.istore 6, 2) := by decide +kernel
theorem dX8_clears_13 : decode cX8_clears 13 = .ok (.iload 6, 2) := by decide +kernel
theorem dX8_clears_15 : decode cX8_clears 15 = .ok (.ifCond .lt 70, 3) := by decide +kernel
theorem dX8_clears_18 : decode cX8_clears 18 = .ok (.aload_n 0, 1) := by decide +kernel
theorem dX8_clears_19 : decode cX8_clears 19 = .ok (.getfield 26, 3) := by decide +kernel
theorem dX8_clears_22 : decode cX8_clears 22 = .ok (.iload 6, 2) := by decide +kernel
theorem dX8_clears_24 : decode cX8_clears 24 = .ok (.iload_n 3, 1) := by decide +kernel
theorem dX8_clears_25 : decode cX8_clears 25 = .ok (.aload_n 0, 1) := by decide +kernel
theorem dX8_clears_26 : decode cX8_clears 26 = .ok (.getfield 67, 3) := by decide +kernel
theorem dX8_clears_29 : decode cX8_clears 29 = .ok (.irem, 1) := by decide +kernel
theorem dX8_clears_30 : decode cX8_clears 30 = .ok (.iastore, 1) := by decide +kernel
theorem dX8_clears_31 : decode cX8_clears 31 = .ok (.iload_n 3, 1) := by decide +kernel
theorem dX8_clears_32 : decode cX8_clears 32 = .ok (.aload_n 0, 1) := by decide +kernel
theorem dX8_clears_33 : decode cX8_clears 33 = .ok (.getfield 67, 3) := by decide +kernel
theorem dX8_clears_36 : decode cX8_clears 36 = .ok (.idiv, 1) := by decide +kernel
theorem dX8_clears_37 : decode cX8_clears 37 = .ok (.istore_n 3, 1) := by decide +kernel
theorem dX8_clears_38 : decode cX8_clears 38 = .ok (.iload 5, 2) := by decide +kernel
theorem dX8_clears_40 : decode cX8_clears 40 = .ok (.ifCond .eq 22, 3) := by decide +kernel
theorem dX8_clears_43 : decode cX8_clears 43 = .ok (.iload 4, 2) := by decide +kernel
theorem dX8_clears_45 : decode cX8_clears 45 = .ok (.aload_n 0, 1) := by decide +kernel
theorem dX8_clears_46 : decode cX8_clears 46 = .ok (.getfield 26, 3) := by decide +kernel
theorem dX8_clears_49 : decode cX8_clears 49 = .ok (.iload 6, 2) := by decide +kernel
theorem dX8_clears_51 : decode cX8_clears 51 = .ok (.iaload, 1) := by decide +kernel
theorem dX8_clears_52 : decode cX8_clears 52 = .ok (.ishr, 1) := by decide +kernel
theorem dX8_clears_53 : decode cX8_clears 53 = .ok (.iconst 1, 1) := by decide +kernel
theorem dX8_clears_54 : decode cX8_clears 54 = .ok (.iand, 1) := by decide +kernel
theorem dX8_clears_55 : decode cX8_clears 55 = .ok (.ifCond .ne 7, 3) := by decide +kernel
theorem dX8_clears_58 : decode cX8_clears 58 = .ok (.iconst 1, 1) := by decide +kernel
theorem dX8_clears_59 : decode cX8_clears 59 = .ok (.goto 4, 3) := by decide +kernel
theorem dX8_clears_62 : decode cX8_clears 62 = .ok (.iconst 0, 1) := by decide +kernel
theorem dX8_clears_63 : decode cX8_clears 63 = .ok (.istore 5, 2) := by decide +kernel
theorem dX8_clears_65 : decode cX8_clears 65 = .ok (.iload 4, 2) := by decide +kernel
theorem dX8_clears_67 : decode cX8_clears 67 = .ok (.iconst 1, 1) := by decide +kernel
theorem dX8_clears_68 : decode cX8_clears 68 = .ok (.aload_n 0, 1) := by decide +kernel
theorem dX8_clears_69 : decode cX8_clears 69 = .ok (.getfield 26, 3) := by decide +kernel
theorem dX8_clears_72 : decode cX8_clears 72 = .ok (.iload 6, 2) := by decide +kernel
theorem dX8_clears_74 : decode cX8_clears 74 = .ok (.iaload, 1) := by decide +kernel
theorem dX8_clears_75 : decode cX8_clears 75 = .ok (.ishl, 1) := by decide +kernel
theorem dX8_clears_76 : decode cX8_clears 76 = .ok (.ior, 1) := by decide +kernel
theorem dX8_clears_77 : decode cX8_clears 77 = .ok (.istore 4, 2) := by decide +kernel
theorem dX8_clears_79 : decode cX8_clears 79 = .ok (.iinc 6 (-1), 3) := by decide +kernel
theorem dX8_clears_82 : decode cX8_clears 82 = .ok (.goto (-69), 3) := by decide +kernel
theorem dX8_clears_85 : decode cX8_clears 85 = .ok (.bipush 100, 2) := by decide +kernel
theorem dX8_clears_87 : decode cX8_clears 87 = .ok (.istore 6, 2) := by decide +kernel
theorem dX8_clears_89 : decode cX8_clears 89 = .ok (.iconst 0, 1) := by decide +kernel
theorem dX8_clears_90 : decode cX8_clears 90 = .ok (.istore 7, 2) := by decide +kernel
theorem dX8_clears_92 : decode cX8_clears 92 = .ok (.iload 7, 2) := by decide +kernel
theorem dX8_clears_94 : decode cX8_clears 94 = .ok (.iload_n 2, 1) := by decide +kernel
theorem dX8_clears_95 : decode cX8_clears 95 = .ok (.if_icmp .ge 66, 3) := by decide +kernel
theorem dX8_clears_98 : decode cX8_clears 98 = .ok (.iload 5, 2) := by decide +kernel
theorem dX8_clears_100 : decode cX8_clears 100 = .ok (.ifCond .eq 23, 3) := by decide +kernel
theorem dX8_clears_103 : decode cX8_clears 103 = .ok (.aload_n 0, 1) := by decide +kernel
theorem dX8_clears_104 : decode cX8_clears 104 = .ok (.getfield 26, 3) := by decide +kernel
theorem dX8_clears_107 : decode cX8_clears 107 = .ok (.iload 7, 2) := by decide +kernel
theorem dX8_clears_109 : decode cX8_clears 109 = .ok (.iaload, 1) := by decide +kernel
theorem dX8_clears_110 : decode cX8_clears 110 = .ok (.aload_n 0, 1) := by decide +kernel
theorem dX8_clears_111 : decode cX8_clears 111 = .ok (.getfield 26, 3) := by decide +kernel
theorem dX8_clears_114 : decode cX8_clears 114 = .ok (.iconst 0, 1) := by decide +kernel
theorem dX8_clears_115 : decode cX8_clears 115 = .ok (.iaload, 1) := by decide +kernel
theorem dX8_clears_116 : decode cX8_clears 116 = .ok (.if_icmp .lt 7, 3) := by decide +kernel
theorem dX8_clears_119 : decode cX8_clears 119 = .ok (.iconst 1, 1) := by decide +kernel
theorem dX8_clears_120 : decode cX8_clears 120 = .ok (.goto 4, 3) := by decide +kernel
theorem dX8_clears_123 : decode cX8_clears 123 = .ok (.iconst 0, 1) := by decide +kernel
theorem dX8_clears_124 : decode cX8_clears 124 = .ok (.istore 5, 2) := by decide +kernel
theorem dX8_clears_126 : decode cX8_clears 126 = .ok (.iload 6, 2) := by decide +kernel
theorem dX8_clears_128 : decode cX8_clears 128 = .ok (.aload_n 0, 1) := by decide +kernel
theorem dX8_clears_129 : decode cX8_clears 129 = .ok (.aload_n 0, 1) := by decide +kernel
theorem dX8_clears_130 : decode cX8_clears 130 = .ok (.getfield 26, 3) := by decide +kernel
theorem dX8_clears_133 : decode cX8_clears 133 = .ok (.iload 7, 2) := by decide +kernel
theorem dX8_clears_135 : decode cX8_clears 135 = .ok (.iaload, 1) := by decide +kernel
theorem dX8_clears_136 : decode cX8_clears 136 = .ok (.aload_n 0, 1) := by decide +kernel
theorem dX8_clears_137 : decode cX8_clears 137 = .ok (.getfield 26, 3) := by decide +kernel
theorem dX8_clears_140 : decode cX8_clears 140 = .ok (.iload 7, 2) := by decide +kernel
theorem dX8_clears_142 : decode cX8_clears 142 = .ok (.iconst 1, 1) := by decide +kernel
theorem dX8_clears_143 : decode cX8_clears 143 = .ok (.iadd, 1) := by decide +kernel
theorem dX8_clears_144 : decode cX8_clears 144 = .ok (.iload_n 2, 1) := by decide +kernel
theorem dX8_clears_145 : decode cX8_clears 145 = .ok (.irem, 1) := by decide +kernel
theorem dX8_clears_146 : decode cX8_clears 146 = .ok (.iaload, 1) := by decide +kernel
theorem dX8_clears_147 : decode cX8_clears 147 = .ok (.invokevirtual 149, 3) := by decide +kernel
theorem dX8_clears_150 : decode cX8_clears 150 = .ok (.invokestatic 161, 3) := by decide +kernel
theorem dX8_clears_153 : decode cX8_clears 153 = .ok (.istore 6, 2) := by decide +kernel
theorem dX8_clears_155 : decode cX8_clears 155 = .ok (.iinc 7 1, 3) := by decide +kernel
theorem dX8_clears_158 : decode cX8_clears 158 = .ok (.goto (-66), 3) := by decide +kernel
theorem dX8_clears_161 : decode cX8_clears 161 = .ok (.iload 5, 2) := by decide +kernel
theorem dX8_clears_163 : decode cX8_clears 163 = .ok (.ifCond .eq 8, 3) := by decide +kernel
theorem dX8_clears_166 : decode cX8_clears 166 = .ok (.iload 6, 2) := by decide +kernel
theorem dX8_clears_168 : decode cX8_clears 168 = .ok (.goto 4, 3) := by decide +kernel
theorem dX8_clears_171 : decode cX8_clears 171 = .ok (.iconst 0, 1) := by decide +kernel
theorem dX8_clears_172 : decode cX8_clears 172 = .ok (.ireturn, 1) := by decide +kernel
set_option maxRecDepth 20000 in
theorem ggX8_findRing_X8_clears : GoodIn wsX8_findRing wsX8_clears := goodIn_r _ [7, 8, 1, 9, 10, 11, 6, 12, 13, 14, 15, 16, 17, 18, 19, 20, 21, 22, 23, 24, 25, 26, 27, 28, 29, 30, 31, 32, 33, 34, 35, 36, 37, 38, 39, 40, 41, 42, 43, 44, 45, 46] (by decide +kernel) (by decide +kernel)
set_option maxRecDepth 20000 in
theorem gX8_findRing_X8_clears : GoodIn wsX8_findRing (wsV RX8 242 RX8 yX8_clears wsX8_clears) := goodIn_app (goodIn_of _ (by decide +kernel)) ggX8_findRing_X8_clears
theorem dX8_findRing_0 : decode cX8_findRing 0 = .ok (.aload_n 0, 1) := by decide +kernel
theorem dX8_findRing_1 : decode cX8_findRing 1 = .ok (.getfield 67, 3) := by decide +kernel
theorem dX8_findRing_4 : decode cX8_findRing 4 = .ok (.istore_n 1, 1) := by decide +kernel
theorem dX8_findRing_5 : decode cX8_findRing 5 = .ok (.iconst 2, 1) := by decide +kernel
theorem dX8_findRing_6 : decode cX8_findRing 6 = .ok (.istore_n 2, 1) := by decide +kernel
theorem dX8_findRing_7 : decode cX8_findRing 7 = .ok (.iload_n 2, 1) := by decide +kernel
theorem dX8_findRing_8 : decode cX8_findRing 8 = .ok (.aload_n 0, 1) := by decide +kernel
theorem dX8_findRing_9 : decode cX8_findRing 9 = .ok (.getfield 67, 3) := by decide +kernel
theorem dX8_findRing_12 : decode cX8_findRing 12 = .ok (.if_icmp .gt 48, 3) := by decide +kernel
theorem dX8_findRing_15 : decode cX8_findRing 15 = .ok (.iload_n 1, 1) := by decide +kernel
theorem dX8_findRing_16 : decode cX8_findRing 16 = .ok (.aload_n 0, 1) := by decide +kernel
theorem dX8_findRing_17 : decode cX8_findRing 17 = .ok (.getfield 67, 3) := by decide +kernel
theorem dX8_findRing_20 : decode cX8_findRing 20 = .ok (.imul, 1) := by decide +kernel
theorem dX8_findRing_21 : decode cX8_findRing 21 = .ok (.istore_n 1, 1) := by decide +kernel
theorem dX8_findRing_22 : decode cX8_findRing 22 = .ok (.iconst 0, 1) := by decide +kernel
theorem dX8_findRing_23 : decode cX8_findRing 23 = .ok (.istore_n 3, 1) := by decide +kernel
theorem dX8_findRing_24 : decode cX8_findRing 24 = .ok (.iload_n 3, 1) := by decide +kernel
theorem dX8_findRing_25 : decode cX8_findRing 25 = .ok (.iload_n 1, 1) := by decide +kernel
theorem dX8_findRing_26 : decode cX8_findRing 26 = .ok (.if_icmp .ge 28, 3) := by decide +kernel
theorem dX8_findRing_29 : decode cX8_findRing 29 = .ok (.aload_n 0, 1) := by decide +kernel
theorem dX8_findRing_30 : decode cX8_findRing 30 = .ok (.aload_n 0, 1) := by decide +kernel
theorem dX8_findRing_31 : decode cX8_findRing 31 = .ok (.iload_n 3, 1) := by decide +kernel
theorem dX8_findRing_32 : decode cX8_findRing 32 = .ok (.iload_n 2, 1) := by decide +kernel
theorem dX8_findRing_33 : decode cX8_findRing 33 = .ok (.invokevirtual 242, 3) := by decide +kernel
theorem dX8_findRing_36 : decode cX8_findRing 36 = .ok (.putfield 245, 3) := by decide +kernel
theorem dX8_findRing_39 : decode cX8_findRing 39 = .ok (.aload_n 0, 1) := by decide +kernel
theorem dX8_findRing_40 : decode cX8_findRing 40 = .ok (.getfield 245, 3) := by decide +kernel
theorem dX8_findRing_43 : decode cX8_findRing 43 = .ok (.ifCond .le 5, 3) := by decide +kernel
theorem dX8_findRing_46 : decode cX8_findRing 46 = .ok (.iload_n 2, 1) := by decide +kernel
theorem dX8_findRing_47 : decode cX8_findRing 47 = .ok (.ireturn, 1) := by decide +kernel
theorem dX8_findRing_48 : decode cX8_findRing 48 = .ok (.iinc 3 1, 3) := by decide +kernel
theorem dX8_findRing_51 : decode cX8_findRing 51 = .ok (.goto (-27), 3) := by decide +kernel
theorem dX8_findRing_54 : decode cX8_findRing 54 = .ok (.iinc 2 1, 3) := by decide +kernel
theorem dX8_findRing_57 : decode cX8_findRing 57 = .ok (.goto (-50), 3) := by decide +kernel
theorem dX8_findRing_60 : decode cX8_findRing 60 = .ok (.bipush (-4), 2) := by decide +kernel
theorem dX8_findRing_62 : decode cX8_findRing 62 = .ok (.ireturn, 1) := by decide +kernel
set_option maxRecDepth 20000 in
theorem ggX8_ring_X8_isPart : GoodIn wsX8_ring wsX8_isPart := goodIn_r _ [8, 9, 10, 7, 11] (by decide +kernel) (by decide +kernel)
set_option maxRecDepth 20000 in
theorem gX8_ring_X8_isPart : GoodIn wsX8_ring (va_wsS RX8 248 yX8_isPart wsX8_isPart) := goodIn_app (goodIn_of _ (by decide +kernel)) ggX8_ring_X8_isPart
set_option maxRecDepth 20000 in
theorem ggX8_ring_X8_in : GoodIn wsX8_ring wsX8_in := goodIn_r _ [11] (by decide +kernel) (by decide +kernel)
set_option maxRecDepth 20000 in
theorem gX8_ring_X8_in : GoodIn wsX8_ring (va_wsS RX8 72 yX8_in wsX8_in) := goodIn_app (goodIn_of _ (by decide +kernel)) ggX8_ring_X8_in
set_option maxRecDepth 20000 in
theorem ggX8_ring_X8_starts : GoodIn wsX8_ring wsX8_starts := goodIn_r _ [15, 16, 17, 34, 35, 36, 37, 38, 39, 40, 41, 42, 43, 44, 45, 46, 47, 48, 49, 50, 51, 52, 53, 54, 55, 56, 57, 58, 59, 60, 61, 62, 63] (by decide +kernel) (by decide +kernel)
set_option maxRecDepth 20000 in
theorem gX8_ring_X8_starts : GoodIn wsX8_ring (wsV RX8 188 RX8 yX8_starts wsX8_starts) := goodIn_app (goodIn_of _ (by decide +kernel)) ggX8_ring_X8_starts
set_option maxRecDepth 20000 in
theorem ggX8_ring_X8_findRing : GoodIn wsX8_ring wsX8_findRing := goodIn_r _ [21, 22, 3, 23, 24, 25, 7, 26, 4, 27, 28, 29, 30, 16, 31, 32, 33, 34, 35, 36, 37, 38, 39, 40, 41, 42, 43, 44, 45, 46, 47, 48, 49, 50, 51, 52, 53, 54, 55, 56, 57, 58, 59, 60, 61, 62, 63] (by decide +kernel) (by decide +kernel)
set_option maxRecDepth 20000 in
theorem gX8_ring_X8_findRing : GoodIn wsX8_ring (wsV RX8 255 RX8 yX8_findRing wsX8_findRing) := goodIn_app (goodIn_of _ (by decide +kernel)) ggX8_ring_X8_findRing
theorem dX8_ring_0 : decode cX8_ring 0 = .ok (.iload_n 1, 1) := by decide +kernel
theorem dX8_ring_1 : decode cX8_ring 1 = .ok (.invokestatic 248, 3) := by decide +kernel
theorem dX8_ring_4 : decode cX8_ring 4 = .ok (.ifCond .ne 19, 3) := by decide +kernel
theorem dX8_ring_7 : decode cX8_ring 7 = .ok (.iload_n 1, 1) := by decide +kernel
theorem dX8_ring_8 : decode cX8_ring 8 = .ok (.i2l, 1) := by decide +kernel
theorem dX8_ring_9 : decode cX8_ring 9 = .ok (.ldc2_w 251, 3) := by decide +kernel
theorem dX8_ring_12 : decode cX8_ring 12 = .ok (.ldc2_w 253, 3) := by decide +kernel
theorem dX8_ring_15 : decode cX8_ring 15 = .ok (.invokestatic 72, 3) := by decide +kernel
theorem dX8_ring_18 : decode cX8_ring 18 = .ok (.ifCond .ne 5, 3) := by decide +kernel
theorem dX8_ring_21 : decode cX8_ring 21 = .ok (.iconst (-1), 1) := by decide +kernel
theorem dX8_ring_22 : decode cX8_ring 22 = .ok (.ireturn, 1) := by decide +kernel
theorem dX8_ring_23 : decode cX8_ring 23 = .ok (.aload_n 0, 1) := by decide +kernel
theorem dX8_ring_24 : decode cX8_ring 24 = .ok (.invokevirtual 188, 3) := by decide +kernel
theorem dX8_ring_27 : decode cX8_ring 27 = .ok (.aload_n 0, 1) := by decide +kernel
theorem dX8_ring_28 : decode cX8_ring 28 = .ok (.invokevirtual 255, 3) := by decide +kernel
theorem dX8_ring_31 : decode cX8_ring 31 = .ok (.istore_n 2, 1) := by decide +kernel
theorem dX8_ring_32 : decode cX8_ring 32 = .ok (.iload_n 2, 1) := by decide +kernel
theorem dX8_ring_33 : decode cX8_ring 33 = .ok (.bipush (-4), 2) := by decide +kernel
theorem dX8_ring_35 : decode cX8_ring 35 = .ok (.if_icmp .ne 6, 3) := by decide +kernel
theorem dX8_ring_38 : decode cX8_ring 38 = .ok (.bipush (-4), 2) := by decide +kernel
theorem dX8_ring_40 : decode cX8_ring 40 = .ok (.ireturn, 1) := by decide +kernel
theorem dX8_ring_41 : decode cX8_ring 41 = .ok (.iload_n 1, 1) := by decide +kernel
theorem dX8_ring_42 : decode cX8_ring 42 = .ok (.ifCond .ne 7, 3) := by decide +kernel
theorem dX8_ring_45 : decode cX8_ring 45 = .ok (.iload_n 2, 1) := by decide +kernel
theorem dX8_ring_46 : decode cX8_ring 46 = .ok (.goto 37, 3) := by decide +kernel
theorem dX8_ring_49 : decode cX8_ring 49 = .ok (.iload_n 1, 1) := by decide +kernel
theorem dX8_ring_50 : decode cX8_ring 50 = .ok (.iconst 1, 1) := by decide +kernel
theorem dX8_ring_51 : decode cX8_ring 51 = .ok (.if_icmp .ne 10, 3) := by decide +kernel
theorem dX8_ring_54 : decode cX8_ring 54 = .ok (.aload_n 0, 1) := by decide +kernel
theorem dX8_ring_55 : decode cX8_ring 55 = .ok (.getfield 245, 3) := by decide +kernel
theorem dX8_ring_58 : decode cX8_ring 58 = .ok (.goto 25, 3) := by decide +kernel
theorem dX8_ring_61 : decode cX8_ring 61 = .ok (.iload_n 1, 1) := by decide +kernel
theorem dX8_ring_62 : decode cX8_ring 62 = .ok (.bipush 10, 2) := by decide +kernel
theorem dX8_ring_64 : decode cX8_ring 64 = .ok (.isub, 1) := by decide +kernel
theorem dX8_ring_65 : decode cX8_ring 65 = .ok (.iload_n 2, 1) := by decide +kernel
theorem dX8_ring_66 : decode cX8_ring 66 = .ok (.if_icmp .ge 15, 3) := by decide +kernel
theorem dX8_ring_69 : decode cX8_ring 69 = .ok (.aload_n 0, 1) := by decide +kernel
theorem dX8_ring_70 : decode cX8_ring 70 = .ok (.getfield 26, 3) := by decide +kernel
theorem dX8_ring_73 : decode cX8_ring 73 = .ok (.iload_n 1, 1) := by decide +kernel
theorem dX8_ring_74 : decode cX8_ring 74 = .ok (.bipush 10, 2) := by decide +kernel
theorem dX8_ring_76 : decode cX8_ring 76 = .ok (.isub, 1) := by decide +kernel
theorem dX8_ring_77 : decode cX8_ring 77 = .ok (.iaload, 1) := by decide +kernel
theorem dX8_ring_78 : decode cX8_ring 78 = .ok (.goto 5, 3) := by decide +kernel
theorem dX8_ring_81 : decode cX8_ring 81 = .ok (.bipush (-4), 2) := by decide +kernel
theorem dX8_ring_83 : decode cX8_ring 83 = .ok (.ireturn, 1) := by decide +kernel
set_option maxRecDepth 20000 in
theorem ggX8_clear_X8_starts : GoodIn wsX8_clear wsX8_starts := goodIn_r _ [8, 1, 9, 38, 39, 40, 41, 42, 43, 44, 45, 46, 47, 48, 49, 50, 51, 52, 53, 54, 55, 56, 57, 58, 59, 60, 61, 62, 63, 64, 65, 66, 67] (by decide +kernel) (by decide +kernel)
set_option maxRecDepth 20000 in
theorem gX8_clear_X8_starts : GoodIn wsX8_clear (wsV RX8 188 RX8 yX8_starts wsX8_starts) := goodIn_app (goodIn_of _ (by decide +kernel)) ggX8_clear_X8_starts
set_option maxRecDepth 20000 in
theorem ggX8_clear_X8_allOwed : GoodIn wsX8_clear wsX8_allOwed := goodIn_r _ [13, 14, 15, 16, 17, 7, 18, 19, 20, 21, 22, 1, 38, 39, 40, 41, 42, 43, 44, 45, 46, 47, 48, 49, 50, 51, 52, 53, 54, 55, 56, 57, 58, 59, 60, 61, 62, 63, 64, 65, 66, 67] (by decide +kernel) (by decide +kernel)
set_option maxRecDepth 20000 in
theorem gX8_clear_X8_allOwed : GoodIn wsX8_clear (wsV RX8 194 RX8 yX8_allOwed wsX8_allOwed) := goodIn_app (goodIn_of _ (by decide +kernel)) ggX8_clear_X8_allOwed
set_option maxRecDepth 20000 in
theorem ggX8_clear_X8_findRing : GoodIn wsX8_clear wsX8_findRing := goodIn_r _ [26, 14, 3, 27, 28, 29, 7, 30, 2, 19, 20, 21, 22, 1, 31, 32, 33, 38, 39, 40, 41, 42, 43, 44, 45, 46, 47, 48, 49, 50, 51, 52, 53, 54, 55, 56, 57, 58, 59, 60, 61, 62, 63, 64, 65, 66, 67] (by decide +kernel) (by decide +kernel)
set_option maxRecDepth 20000 in
theorem gX8_clear_X8_findRing : GoodIn wsX8_clear (wsV RX8 255 RX8 yX8_findRing wsX8_findRing) := goodIn_app (goodIn_of _ (by decide +kernel)) ggX8_clear_X8_findRing
set_option maxRecDepth 20000 in
theorem ggX8_clear_X8_settles : GoodIn wsX8_clear wsX8_settles := goodIn_r _ [37, 9, 1, 38, 39, 40, 41, 42, 43, 44, 45, 46, 47, 48, 49, 50, 51, 52, 53, 54, 55, 56, 57, 58, 59, 60, 61, 62, 63, 64, 65, 66, 67] (by decide +kernel) (by decide +kernel)
set_option maxRecDepth 20000 in
theorem gX8_clear_X8_settles : GoodIn wsX8_clear (wsV RX8 221 RX8 yX8_settles wsX8_settles) := goodIn_app (goodIn_of _ (by decide +kernel)) ggX8_clear_X8_settles
theorem dX8_clear_0 : decode cX8_clear 0 = .ok (.aload_n 0, 1) := by decide +kernel
theorem dX8_clear_1 : decode cX8_clear 1 = .ok (.invokevirtual 188, 3) := by decide +kernel
theorem dX8_clear_4 : decode cX8_clear 4 = .ok (.aload_n 0, 1) := by decide +kernel
theorem dX8_clear_5 : decode cX8_clear 5 = .ok (.invokevirtual 194, 3) := by decide +kernel
theorem dX8_clear_8 : decode cX8_clear 8 = .ok (.istore_n 1, 1) := by decide +kernel
theorem dX8_clear_9 : decode cX8_clear 9 = .ok (.aload_n 0, 1) := by decide +kernel
theorem dX8_clear_10 : decode cX8_clear 10 = .ok (.invokevirtual 255, 3) := by decide +kernel
theorem dX8_clear_13 : decode cX8_clear 13 = .ok (.istore_n 2, 1) := by decide +kernel
theorem dX8_clear_14 : decode cX8_clear 14 = .ok (.iconst 0, 1) := by decide +kernel
theorem dX8_clear_15 : decode cX8_clear 15 = .ok (.istore_n 3, 1) := by decide +kernel
theorem dX8_clear_16 : decode cX8_clear 16 = .ok (.iload_n 3, 1) := by decide +kernel
theorem dX8_clear_17 : decode cX8_clear 17 = .ok (.bipush 25, 2) := by decide +kernel
theorem dX8_clear_19 : decode cX8_clear 19 = .ok (.if_icmp .ge 71, 3) := by decide +kernel
theorem dX8_clear_22 : decode cX8_clear 22 = .ok (.iload_n 2, 1) := by decide +kernel
theorem dX8_clear_23 : decode cX8_clear 23 = .ok (.bipush (-4), 2) := by decide +kernel
theorem dX8_clear_25 : decode cX8_clear 25 = .ok (.if_icmp .eq 65, 3) := by decide +kernel
theorem dX8_clear_28 : decode cX8_clear 28 = .ok (.iconst 0, 1) := by decide +kernel
theorem dX8_clear_29 : decode cX8_clear 29 = .ok (.istore 4, 2) := by decide +kernel
theorem dX8_clear_31 : decode cX8_clear 31 = .ok (.iload 4, 2) := by decide +kernel
theorem dX8_clear_33 : decode cX8_clear 33 = .ok (.iload_n 2, 1) := by decide +kernel
theorem dX8_clear_34 : decode cX8_clear 34 = .ok (.if_icmp .ge 45, 3) := by decide +kernel
theorem dX8_clear_37 : decode cX8_clear 37 = .ok (.aload_n 0, 1) := by decide +kernel
theorem dX8_clear_38 : decode cX8_clear 38 = .ok (.getfield 13, 3) := by decide +kernel
theorem dX8_clear_41 : decode cX8_clear 41 = .ok (.bipush 15, 2) := by decide +kernel
theorem dX8_clear_43 : decode cX8_clear 43 = .ok (.iconst 5, 1) := by decide +kernel
theorem dX8_clear_44 : decode cX8_clear 44 = .ok (.aload_n 0, 1) := by decide +kernel
theorem dX8_clear_45 : decode cX8_clear 45 = .ok (.getfield 26, 3) := by decide +kernel
theorem dX8_clear_48 : decode cX8_clear 48 = .ok (.iload 4, 2) := by decide +kernel
theorem dX8_clear_50 : decode cX8_clear 50 = .ok (.iaload, 1) := by decide +kernel
theorem dX8_clear_51 : decode cX8_clear 51 = .ok (.imul, 1) := by decide +kernel
theorem dX8_clear_52 : decode cX8_clear 52 = .ok (.iadd, 1) := by decide +kernel
theorem dX8_clear_53 : decode cX8_clear 53 = .ok (.aload_n 0, 1) := by decide +kernel
theorem dX8_clear_54 : decode cX8_clear 54 = .ok (.getfield 26, 3) := by decide +kernel
theorem dX8_clear_57 : decode cX8_clear 57 = .ok (.iload 4, 2) := by decide +kernel
theorem dX8_clear_59 : decode cX8_clear 59 = .ok (.iconst 1, 1) := by decide +kernel
theorem dX8_clear_60 : decode cX8_clear 60 = .ok (.iadd, 1) := by decide +kernel
theorem dX8_clear_61 : decode cX8_clear 61 = .ok (.iload_n 2, 1) := by decide +kernel
theorem dX8_clear_62 : decode cX8_clear 62 = .ok (.irem, 1) := by decide +kernel
theorem dX8_clear_63 : decode cX8_clear 63 = .ok (.iaload, 1) := by decide +kernel
theorem dX8_clear_64 : decode cX8_clear 64 = .ok (.iadd, 1) := by decide +kernel
theorem dX8_clear_65 : decode cX8_clear 65 = .ok (.dup2, 1) := by decide +kernel
theorem dX8_clear_66 : decode cX8_clear 66 = .ok (.iaload, 1) := by decide +kernel
theorem dX8_clear_67 : decode cX8_clear 67 = .ok (.aload_n 0, 1) := by decide +kernel
theorem dX8_clear_68 : decode cX8_clear 68 = .ok (.getfield 245, 3) := by decide +kernel
theorem dX8_clear_71 : decode cX8_clear 71 = .ok (.isub, 1) := by decide +kernel
theorem dX8_clear_72 : decode cX8_clear 72 = .ok (.iastore, 1) := by decide +kernel
theorem dX8_clear_73 : decode cX8_clear 73 = .ok (.iinc 4 1, 3) := by decide +kernel
theorem dX8_clear_76 : decode cX8_clear 76 = .ok (.goto (-45), 3) := by decide +kernel
theorem dX8_clear_79 : decode cX8_clear 79 = .ok (.aload_n 0, 1) := by decide +kernel
theorem dX8_clear_80 : decode cX8_clear 80 = .ok (.invokevirtual 255, 3) := by decide +kernel
theorem dX8_clear_83 : decode cX8_clear 83 = .ok (.istore_n 2, 1) := by decide +kernel
theorem dX8_clear_84 : decode cX8_clear 84 = .ok (.iinc 3 1, 3) := by decide +kernel
theorem dX8_clear_87 : decode cX8_clear 87 = .ok (.goto (-71), 3) := by decide +kernel
theorem dX8_clear_90 : decode cX8_clear 90 = .ok (.aload_n 0, 1) := by decide +kernel
theorem dX8_clear_91 : decode cX8_clear 91 = .ok (.invokevirtual 221, 3) := by decide +kernel
theorem dX8_clear_94 : decode cX8_clear 94 = .ok (.iload_n 1, 1) := by decide +kernel
theorem dX8_clear_95 : decode cX8_clear 95 = .ok (.aload_n 0, 1) := by decide +kernel
theorem dX8_clear_96 : decode cX8_clear 96 = .ok (.invokevirtual 194, 3) := by decide +kernel
theorem dX8_clear_99 : decode cX8_clear 99 = .ok (.isub, 1) := by decide +kernel
theorem dX8_clear_100 : decode cX8_clear 100 = .ok (.ireturn, 1) := by decide +kernel
set_option maxRecDepth 20000 in
theorem ggX8_ridingBehind_X8_daysGo : GoodIn wsX8_ridingBehind wsX8_daysGo := goodIn_r _ [5, 6, 7, 8, 9, 4, 10, 11, 12, 13, 14, 15, 16, 17, 18, 19, 20, 21, 22, 23, 24, 25, 26, 27, 28, 29, 30, 31, 32, 33, 34, 35, 36, 37, 38, 39, 40, 41, 42, 43, 51, 52, 53, 54, 55, 56, 57, 58, 59, 60, 61, 62, 63, 64, 65, 66, 67, 68, 69, 70, 71, 72, 73, 74, 75, 76, 77, 78, 79, 80] (by decide +kernel) (by decide +kernel)
set_option maxRecDepth 20000 in
theorem gX8_ridingBehind_X8_daysGo : GoodIn wsX8_ridingBehind (wsV RX8 226 RX8 yX8_daysGo wsX8_daysGo) := goodIn_app (goodIn_of _ (by decide +kernel)) ggX8_ridingBehind_X8_daysGo
set_option maxRecDepth 20000 in
theorem ggX8_ridingBehind_X8_ridingMany : GoodIn wsX8_ridingBehind wsX8_ridingMany := goodIn_r _ [47, 11, 32, 33, 34, 4, 35, 36, 37, 38, 39, 12, 48, 49, 50, 51, 52, 53, 54, 55, 56, 57, 58, 59, 60, 61, 62, 63, 64, 65, 66, 67, 68, 69, 70, 71, 72, 73, 74, 75, 76, 77, 78, 79, 80] (by decide +kernel) (by decide +kernel)
set_option maxRecDepth 20000 in
theorem gX8_ridingBehind_X8_ridingMany : GoodIn wsX8_ridingBehind (wsV RX8 258 RX8 yX8_ridingMany wsX8_ridingMany) := goodIn_app (goodIn_of _ (by decide +kernel)) ggX8_ridingBehind_X8_ridingMany
theorem dX8_ridingBehind_0 : decode cX8_ridingBehind 0 = .ok (.aload_n 0, 1) := by decide +kernel
theorem dX8_ridingBehind_1 : decode cX8_ridingBehind 1 = .ok (.iload_n 1, 1) := by decide +kernel
theorem dX8_ridingBehind_2 : decode cX8_ridingBehind 2 = .ok (.invokevirtual 226, 3) := by decide +kernel
theorem dX8_ridingBehind_5 : decode cX8_ridingBehind 5 = .ok (.aload_n 0, 1) := by decide +kernel
theorem dX8_ridingBehind_6 : decode cX8_ridingBehind 6 = .ok (.invokevirtual 258, 3) := by decide +kernel
theorem dX8_ridingBehind_9 : decode cX8_ridingBehind 9 = .ok (.ireturn, 1) := by decide +kernel
set_option maxRecDepth 20000 in
theorem ggX8_give_X8_in : GoodIn wsX8_give wsX8_in := goodIn_r _ [6] (by decide +kernel) (by decide +kernel)
set_option maxRecDepth 20000 in
theorem gX8_give_X8_in : GoodIn wsX8_give (va_wsS RX8 72 yX8_in wsX8_in) := goodIn_app (goodIn_of _ (by decide +kernel)) ggX8_give_X8_in
set_option maxRecDepth 20000 in
theorem ggX8_give_X8_isPart : GoodIn wsX8_give wsX8_isPart := goodIn_r _ [9, 3, 4, 5, 6] (by decide +kernel) (by decide +kernel)
set_option maxRecDepth 20000 in
theorem gX8_give_X8_isPart : GoodIn wsX8_give (va_wsS RX8 248 yX8_isPart wsX8_isPart) := goodIn_app (goodIn_of _ (by decide +kernel)) ggX8_give_X8_isPart
set_option maxRecDepth 20000 in
theorem ggX8_give_X8_starts : GoodIn wsX8_give wsX8_starts := goodIn_r _ [13, 14, 15, 67, 68, 69, 70, 71, 72, 73, 74, 75, 76, 77, 78, 79, 80, 81, 82, 83, 84, 85, 86, 87, 88, 89, 90, 91, 92, 93, 94, 95, 96] (by decide +kernel) (by decide +kernel)
set_option maxRecDepth 20000 in
theorem gX8_give_X8_starts : GoodIn wsX8_give (wsV RX8 188 RX8 yX8_starts wsX8_starts) := goodIn_app (goodIn_of _ (by decide +kernel)) ggX8_give_X8_starts
set_option maxRecDepth 20000 in
theorem ggX8_give_X8_ridingBehind : GoodIn wsX8_give wsX8_ridingBehind := goodIn_r _ [19, 20, 21, 22, 5, 23, 24, 25, 26, 27, 28, 2, 14, 29, 30, 31, 32, 33, 34, 35, 36, 37, 38, 39, 40, 41, 42, 43, 44, 45, 46, 47, 48, 49, 50, 51, 52, 53, 54, 55, 56, 57, 58, 59, 60, 61, 62, 63, 64, 65, 66, 67, 68, 69, 70, 71, 72, 73, 74, 75, 76, 77, 78, 79, 80, 81, 82, 83, 84, 85, 86, 87, 88, 89, 90, 91, 92, 93, 94, 95, 96] (by decide +kernel) (by decide +kernel)
set_option maxRecDepth 20000 in
theorem gX8_give_X8_ridingBehind : GoodIn wsX8_give (wsV RX8 261 RX8 yX8_ridingBehind wsX8_ridingBehind) := goodIn_app (goodIn_of _ (by decide +kernel)) ggX8_give_X8_ridingBehind
set_option maxRecDepth 20000 in
theorem ggX8_give_X8_gets : GoodIn wsX8_give wsX8_gets := goodIn_r _ [36, 29, 30, 31, 5, 32, 14, 37, 38, 39, 40, 41, 42, 43, 67, 68, 69, 70, 71, 72, 73, 74, 75, 76, 77, 78, 79, 80, 81, 82, 83, 84, 85, 86, 87, 88, 89, 90, 91, 92, 93, 94, 95, 96] (by decide +kernel) (by decide +kernel)
set_option maxRecDepth 20000 in
theorem gX8_give_X8_gets : GoodIn wsX8_give (wsV RX8 168 RX8 yX8_gets wsX8_gets) := goodIn_app (goodIn_of _ (by decide +kernel)) ggX8_give_X8_gets
theorem dX8_give_0 : decode cX8_give 0 = .ok (.iload_n 1, 1) := by decide +kernel
theorem dX8_give_1 : decode cX8_give 1 = .ok (.i2l, 1) := by decide +kernel
theorem dX8_give_2 : decode cX8_give 2 = .ok (.lconst 1, 1) := by decide +kernel
theorem dX8_give_3 : decode cX8_give 3 = .ok (.ldc2_w 216, 3) := by decide +kernel
theorem dX8_give_6 : decode cX8_give 6 = .ok (.invokestatic 72, 3) := by decide +kernel
theorem dX8_give_9 : decode cX8_give 9 = .ok (.ifCond .eq 10, 3) := by decide +kernel
theorem dX8_give_12 : decode cX8_give 12 = .ok (.iload_n 2, 1) := by decide +kernel
theorem dX8_give_13 : decode cX8_give 13 = .ok (.invokestatic 248, 3) := by decide +kernel
theorem dX8_give_16 : decode cX8_give 16 = .ok (.ifCond .ne 5, 3) := by decide +kernel
theorem dX8_give_19 : decode cX8_give 19 = .ok (.iconst (-1), 1) := by decide +kernel
theorem dX8_give_20 : decode cX8_give 20 = .ok (.ireturn, 1) := by decide +kernel
theorem dX8_give_21 : decode cX8_give 21 = .ok (.aload_n 0, 1) := by decide +kernel
theorem dX8_give_22 : decode cX8_give 22 = .ok (.invokevirtual 188, 3) := by decide +kernel
theorem dX8_give_25 : decode cX8_give 25 = .ok (.aload_n 0, 1) := by decide +kernel
theorem dX8_give_26 : decode cX8_give 26 = .ok (.bipush 30, 2) := by decide +kernel
theorem dX8_give_28 : decode cX8_give 28 = .ok (.invokevirtual 261, 3) := by decide +kernel
theorem dX8_give_31 : decode cX8_give 31 = .ok (.istore_n 3, 1) := by decide +kernel
theorem dX8_give_32 : decode cX8_give 32 = .ok (.bipush (-4), 2) := by decide +kernel
theorem dX8_give_34 : decode cX8_give 34 = .ok (.istore 4, 2) := by decide +kernel
theorem dX8_give_36 : decode cX8_give 36 = .ok (.iconst 0, 1) := by decide +kernel
theorem dX8_give_37 : decode cX8_give 37 = .ok (.istore 5, 2) := by decide +kernel
theorem dX8_give_39 : decode cX8_give 39 = .ok (.iload 5, 2) := by decide +kernel
theorem dX8_give_41 : decode cX8_give 41 = .ok (.aload_n 0, 1) := by decide +kernel
theorem dX8_give_42 : decode cX8_give 42 = .ok (.getfield 67, 3) := by decide +kernel
theorem dX8_give_45 : decode cX8_give 45 = .ok (.if_icmp .ge 56, 3) := by decide +kernel
theorem dX8_give_48 : decode cX8_give 48 = .ok (.aload_n 0, 1) := by decide +kernel
theorem dX8_give_49 : decode cX8_give 49 = .ok (.invokevirtual 188, 3) := by decide +kernel
theorem dX8_give_52 : decode cX8_give 52 = .ok (.aload_n 0, 1) := by decide +kernel
theorem dX8_give_53 : decode cX8_give 53 = .ok (.iload 5, 2) := by decide +kernel
theorem dX8_give_55 : decode cX8_give 55 = .ok (.iload_n 1, 1) := by decide +kernel
theorem dX8_give_56 : decode cX8_give 56 = .ok (.invokevirtual 168, 3) := by decide +kernel
theorem dX8_give_59 : decode cX8_give 59 = .ok (.aload_n 0, 1) := by decide +kernel
theorem dX8_give_60 : decode cX8_give 60 = .ok (.bipush 30, 2) := by decide +kernel
theorem dX8_give_62 : decode cX8_give 62 = .ok (.invokevirtual 261, 3) := by decide +kernel
theorem dX8_give_65 : decode cX8_give 65 = .ok (.istore 6, 2) := by decide +kernel
theorem dX8_give_67 : decode cX8_give 67 = .ok (.iload 6, 2) := by decide +kernel
theorem dX8_give_69 : decode cX8_give 69 = .ok (.iload_n 3, 1) := by decide +kernel
theorem dX8_give_70 : decode cX8_give 70 = .ok (.if_icmp .le 8, 3) := by decide +kernel
theorem dX8_give_73 : decode cX8_give 73 = .ok (.iload 5, 2) := by decide +kernel
theorem dX8_give_75 : decode cX8_give 75 = .ok (.goto 5, 3) := by decide +kernel
theorem dX8_give_78 : decode cX8_give 78 = .ok (.iload 4, 2) := by decide +kernel
theorem dX8_give_80 : decode cX8_give 80 = .ok (.istore 4, 2) := by decide +kernel
theorem dX8_give_82 : decode cX8_give 82 = .ok (.iload 6, 2) := by decide +kernel
theorem dX8_give_84 : decode cX8_give 84 = .ok (.iload_n 3, 1) := by decide +kernel
theorem dX8_give_85 : decode cX8_give 85 = .ok (.if_icmp .le 8, 3) := by decide +kernel
theorem dX8_give_88 : decode cX8_give 88 = .ok (.iload 6, 2) := by decide +kernel
theorem dX8_give_90 : decode cX8_give 90 = .ok (.goto 4, 3) := by decide +kernel
theorem dX8_give_93 : decode cX8_give 93 = .ok (.iload_n 3, 1) := by decide +kernel
theorem dX8_give_94 : decode cX8_give 94 = .ok (.istore_n 3, 1) := by decide +kernel
theorem dX8_give_95 : decode cX8_give 95 = .ok (.iinc 5 1, 3) := by decide +kernel
theorem dX8_give_98 : decode cX8_give 98 = .ok (.goto (-59), 3) := by decide +kernel
theorem dX8_give_101 : decode cX8_give 101 = .ok (.iload 4, 2) := by decide +kernel
theorem dX8_give_103 : decode cX8_give 103 = .ok (.bipush (-4), 2) := by decide +kernel
theorem dX8_give_105 : decode cX8_give 105 = .ok (.if_icmp .ne 8, 3) := by decide +kernel
theorem dX8_give_108 : decode cX8_give 108 = .ok (.bipush (-4), 2) := by decide +kernel
theorem dX8_give_110 : decode cX8_give 110 = .ok (.goto 13, 3) := by decide +kernel
theorem dX8_give_113 : decode cX8_give 113 = .ok (.iload_n 2, 1) := by decide +kernel
theorem dX8_give_114 : decode cX8_give 114 = .ok (.ifCond .ne 8, 3) := by decide +kernel
theorem dX8_give_117 : decode cX8_give 117 = .ok (.iload 4, 2) := by decide +kernel
theorem dX8_give_119 : decode cX8_give 119 = .ok (.goto 4, 3) := by decide +kernel
theorem dX8_give_122 : decode cX8_give 122 = .ok (.iload_n 3, 1) := by decide +kernel
theorem dX8_give_123 : decode cX8_give 123 = .ok (.ireturn, 1) := by decide +kernel
set_option maxRecDepth 20000 in
theorem ggX8_forgive_X8_isPart : GoodIn wsX8_forgive wsX8_isPart := goodIn_r _ [6, 7, 8, 5, 9] (by decide +kernel) (by decide +kernel)
set_option maxRecDepth 20000 in
theorem gX8_forgive_X8_isPart : GoodIn wsX8_forgive (va_wsS RX8 248 yX8_isPart wsX8_isPart) := goodIn_app (goodIn_of _ (by decide +kernel)) ggX8_forgive_X8_isPart
set_option maxRecDepth 20000 in
theorem ggX8_forgive_X8_starts : GoodIn wsX8_forgive wsX8_starts := goodIn_r _ [13, 2, 14, 66, 67, 68, 69, 70, 71, 72, 73, 74, 75, 76, 77, 78, 79, 80, 81, 82, 83, 84, 85, 86, 87, 88, 89, 90, 91, 92, 93, 94, 95] (by decide +kernel) (by decide +kernel)
set_option maxRecDepth 20000 in
theorem gX8_forgive_X8_starts : GoodIn wsX8_forgive (wsV RX8 188 RX8 yX8_starts wsX8_starts) := goodIn_app (goodIn_of _ (by decide +kernel)) ggX8_forgive_X8_starts
set_option maxRecDepth 20000 in
theorem ggX8_forgive_X8_ridingBehind : GoodIn wsX8_forgive wsX8_ridingBehind := goodIn_r _ [18, 19, 20, 21, 5, 22, 23, 24, 25, 26, 27, 1, 2, 28, 29, 30, 31, 32, 33, 34, 35, 36, 37, 38, 39, 40, 41, 42, 43, 44, 45, 46, 47, 48, 49, 50, 51, 52, 53, 54, 55, 56, 57, 58, 59, 60, 61, 62, 63, 64, 65, 66, 67, 68, 69, 70, 71, 72, 73, 74, 75, 76, 77, 78, 79, 80, 81, 82, 83, 84, 85, 86, 87, 88, 89, 90, 91, 92, 93, 94, 95] (by decide +kernel) (by decide +kernel)
set_option maxRecDepth 20000 in
theorem gX8_forgive_X8_ridingBehind : GoodIn wsX8_forgive (wsV RX8 261 RX8 yX8_ridingBehind wsX8_ridingBehind) := goodIn_app (goodIn_of _ (by decide +kernel)) ggX8_forgive_X8_ridingBehind
theorem dX8_forgive_0 : decode cX8_forgive 0 = .ok (.iload_n 1, 1) := by decide +kernel
theorem dX8_forgive_1 : decode cX8_forgive 1 = .ok (.invokestatic 248, 3) := by decide +kernel
theorem dX8_forgive_4 : decode cX8_forgive 4 = .ok (.ifCond .ne 5, 3) := by decide +kernel
theorem dX8_forgive_7 : decode cX8_forgive 7 = .ok (.iconst (-1), 1) := by decide +kernel
theorem dX8_forgive_8 : decode cX8_forgive 8 = .ok (.ireturn, 1) := by decide +kernel
theorem dX8_forgive_9 : decode cX8_forgive 9 = .ok (.aload_n 0, 1) := by decide +kernel
theorem dX8_forgive_10 : decode cX8_forgive 10 = .ok (.invokevirtual 188, 3) := by decide +kernel
theorem dX8_forgive_13 : decode cX8_forgive 13 = .ok (.aload_n 0, 1) := by decide +kernel
theorem dX8_forgive_14 : decode cX8_forgive 14 = .ok (.bipush 30, 2) := by decide +kernel
theorem dX8_forgive_16 : decode cX8_forgive 16 = .ok (.invokevirtual 261, 3) := by decide +kernel
theorem dX8_forgive_19 : decode cX8_forgive 19 = .ok (.istore_n 2, 1) := by decide +kernel
theorem dX8_forgive_20 : decode cX8_forgive 20 = .ok (.bipush (-4), 2) := by decide +kernel
theorem dX8_forgive_22 : decode cX8_forgive 22 = .ok (.istore_n 3, 1) := by decide +kernel
theorem dX8_forgive_23 : decode cX8_forgive 23 = .ok (.iconst 0, 1) := by decide +kernel
theorem dX8_forgive_24 : decode cX8_forgive 24 = .ok (.istore 4, 2) := by decide +kernel
theorem dX8_forgive_26 : decode cX8_forgive 26 = .ok (.iload 4, 2) := by decide +kernel
theorem dX8_forgive_28 : decode cX8_forgive 28 = .ok (.aload_n 0, 1) := by decide +kernel
theorem dX8_forgive_29 : decode cX8_forgive 29 = .ok (.getfield 67, 3) := by decide +kernel
theorem dX8_forgive_32 : decode cX8_forgive 32 = .ok (.if_icmp .ge 94, 3) := by decide +kernel
theorem dX8_forgive_35 : decode cX8_forgive 35 = .ok (.iconst 0, 1) := by decide +kernel
theorem dX8_forgive_36 : decode cX8_forgive 36 = .ok (.istore 5, 2) := by decide +kernel
theorem dX8_forgive_38 : decode cX8_forgive 38 = .ok (.iload 5, 2) := by decide +kernel
theorem dX8_forgive_40 : decode cX8_forgive 40 = .ok (.aload_n 0, 1) := by decide +kernel
theorem dX8_forgive_41 : decode cX8_forgive 41 = .ok (.getfield 67, 3) := by decide +kernel
theorem dX8_forgive_44 : decode cX8_forgive 44 = .ok (.if_icmp .ge 76, 3) := by decide +kernel
theorem dX8_forgive_47 : decode cX8_forgive 47 = .ok (.iload 4, 2) := by decide +kernel
theorem dX8_forgive_49 : decode cX8_forgive 49 = .ok (.iload 5, 2) := by decide +kernel
theorem dX8_forgive_51 : decode cX8_forgive 51 = .ok (.if_icmp .eq 63, 3) := by decide +kernel
theorem dX8_forgive_54 : decode cX8_forgive 54 = .ok (.aload_n 0, 1) := by decide +kernel
theorem dX8_forgive_55 : decode cX8_forgive 55 = .ok (.invokevirtual 188, 3) := by decide +kernel
theorem dX8_forgive_58 : decode cX8_forgive 58 = .ok (.aload_n 0, 1) := by decide +kernel
theorem dX8_forgive_59 : decode cX8_forgive 59 = .ok (.getfield 13, 3) := by decide +kernel
theorem dX8_forgive_62 : decode cX8_forgive 62 = .ok (.bipush 15, 2) := by decide +kernel
theorem dX8_forgive_64 : decode cX8_forgive 64 = .ok (.iconst 5, 1) := by decide +kernel
theorem dX8_forgive_65 : decode cX8_forgive 65 = .ok (.iload 4, 2) := by decide +kernel
theorem dX8_forgive_67 : decode cX8_forgive 67 = .ok (.imul, 1) := by decide +kernel
theorem dX8_forgive_68 : decode cX8_forgive 68 = .ok (.iadd, 1) := by decide +kernel
theorem dX8_forgive_69 : decode cX8_forgive 69 = .ok (.iload 5, 2) := by decide +kernel
theorem dX8_forgive_71 : decode cX8_forgive 71 = .ok (.iadd, 1) := by decide +kernel
theorem dX8_forgive_72 : decode cX8_forgive 72 = .ok (.iconst 0, 1) := by decide +kernel
theorem dX8_forgive_73 : decode cX8_forgive 73 = .ok (.iastore, 1) := by decide +kernel
theorem dX8_forgive_74 : decode cX8_forgive 74 = .ok (.aload_n 0, 1) := by decide +kernel
theorem dX8_forgive_75 : decode cX8_forgive 75 = .ok (.bipush 30, 2) := by decide +kernel
theorem dX8_forgive_77 : decode cX8_forgive 77 = .ok (.invokevirtual 261, 3) := by decide +kernel
theorem dX8_forgive_80 : decode cX8_forgive 80 = .ok (.istore 6, 2) := by decide +kernel
theorem dX8_forgive_82 : decode cX8_forgive 82 = .ok (.iload 6, 2) := by decide +kernel
theorem dX8_forgive_84 : decode cX8_forgive 84 = .ok (.iload_n 2, 1) := by decide +kernel
theorem dX8_forgive_85 : decode cX8_forgive 85 = .ok (.if_icmp .le 14, 3) := by decide +kernel
theorem dX8_forgive_88 : decode cX8_forgive 88 = .ok (.bipush 10, 2) := by decide +kernel
theorem dX8_forgive_90 : decode cX8_forgive 90 = .ok (.iload 4, 2) := by decide +kernel
theorem dX8_forgive_92 : decode cX8_forgive 92 = .ok (.imul, 1) := by decide +kernel
theorem dX8_forgive_93 : decode cX8_forgive 93 = .ok (.iload 5, 2) := by decide +kernel
theorem dX8_forgive_95 : decode cX8_forgive 95 = .ok (.iadd, 1) := by decide +kernel
theorem dX8_forgive_96 : decode cX8_forgive 96 = .ok (.goto 4, 3) := by decide +kernel
theorem dX8_forgive_99 : decode cX8_forgive 99 = .ok (.iload_n 3, 1) := by decide +kernel
theorem dX8_forgive_100 : decode cX8_forgive 100 = .ok (.istore_n 3, 1) := by decide +kernel
theorem dX8_forgive_101 : decode cX8_forgive 101 = .ok (.iload 6, 2) := by decide +kernel
theorem dX8_forgive_103 : decode cX8_forgive 103 = .ok (.iload_n 2, 1) := by decide +kernel
theorem dX8_forgive_104 : decode cX8_forgive 104 = .ok (.if_icmp .le 8, 3) := by decide +kernel
theorem dX8_forgive_107 : decode cX8_forgive 107 = .ok (.iload 6, 2) := by decide +kernel
theorem dX8_forgive_109 : decode cX8_forgive 109 = .ok (.goto 4, 3) := by decide +kernel
theorem dX8_forgive_112 : decode cX8_forgive 112 = .ok (.iload_n 2, 1) := by decide +kernel
theorem dX8_forgive_113 : decode cX8_forgive 113 = .ok (.istore_n 2, 1) := by decide +kernel
theorem dX8_forgive_114 : decode cX8_forgive 114 = .ok (.iinc 5 1, 3) := by decide +kernel
theorem dX8_forgive_117 : decode cX8_forgive 117 = .ok (.goto (-79), 3) := by decide +kernel
theorem dX8_forgive_120 : decode cX8_forgive 120 = .ok (.iinc 4 1, 3) := by decide +kernel
theorem dX8_forgive_123 : decode cX8_forgive 123 = .ok (.goto (-97), 3) := by decide +kernel
theorem dX8_forgive_126 : decode cX8_forgive 126 = .ok (.iload_n 3, 1) := by decide +kernel
theorem dX8_forgive_127 : decode cX8_forgive 127 = .ok (.bipush (-4), 2) := by decide +kernel
theorem dX8_forgive_129 : decode cX8_forgive 129 = .ok (.if_icmp .ne 8, 3) := by decide +kernel
theorem dX8_forgive_132 : decode cX8_forgive 132 = .ok (.bipush (-4), 2) := by decide +kernel
theorem dX8_forgive_134 : decode cX8_forgive 134 = .ok (.goto 12, 3) := by decide +kernel
theorem dX8_forgive_137 : decode cX8_forgive 137 = .ok (.iload_n 1, 1) := by decide +kernel
theorem dX8_forgive_138 : decode cX8_forgive 138 = .ok (.ifCond .ne 7, 3) := by decide +kernel
theorem dX8_forgive_141 : decode cX8_forgive 141 = .ok (.iload_n 3, 1) := by decide +kernel
theorem dX8_forgive_142 : decode cX8_forgive 142 = .ok (.goto 4, 3) := by decide +kernel
theorem dX8_forgive_145 : decode cX8_forgive 145 = .ok (.iload_n 2, 1) := by decide +kernel
theorem dX8_forgive_146 : decode cX8_forgive 146 = .ok (.ireturn, 1) := by decide +kernel
set_option maxRecDepth 20000 in
theorem ggX8_kind_X8_isOne : GoodIn wsX8_kind wsX8_isOne := goodIn_r _ [5, 6, 7, 8, 4, 9, 59, 60, 61, 62, 63, 64, 65, 66, 67, 68, 69, 70, 71, 72, 73, 74, 75, 76, 77, 78, 79, 80, 81, 82, 83, 84, 85, 86, 87, 88] (by decide +kernel) (by decide +kernel)
set_option maxRecDepth 20000 in
theorem gX8_kind_X8_isOne : GoodIn wsX8_kind (wsV RX8 145 RX8 yX8_isOne wsX8_isOne) := goodIn_app (goodIn_of _ (by decide +kernel)) ggX8_kind_X8_isOne
set_option maxRecDepth 20000 in
theorem ggX8_kind_X8_isPart : GoodIn wsX8_kind wsX8_isPart := goodIn_r _ [12, 7, 8, 4, 9] (by decide +kernel) (by decide +kernel)
set_option maxRecDepth 20000 in
theorem gX8_kind_X8_isPart : GoodIn wsX8_kind (va_wsS RX8 248 yX8_isPart wsX8_isPart) := goodIn_app (goodIn_of _ (by decide +kernel)) ggX8_kind_X8_isPart
set_option maxRecDepth 20000 in
theorem ggX8_kind_X8_starts : GoodIn wsX8_kind wsX8_starts := goodIn_r _ [16, 17, 18, 59, 60, 61, 62, 63, 64, 65, 66, 67, 68, 69, 70, 71, 72, 73, 74, 75, 76, 77, 78, 79, 80, 81, 82, 83, 84, 85, 86, 87, 88] (by decide +kernel) (by decide +kernel)
set_option maxRecDepth 20000 in
theorem gX8_kind_X8_starts : GoodIn wsX8_kind (wsV RX8 188 RX8 yX8_starts wsX8_starts) := goodIn_app (goodIn_of _ (by decide +kernel)) ggX8_kind_X8_starts
set_option maxRecDepth 20000 in
theorem ggX8_kind_X8_becomesOf : GoodIn wsX8_kind wsX8_becomesOf := goodIn_r _ [22, 17, 59, 60, 61, 62, 63, 64, 65, 66, 67, 68, 69, 70, 71, 72, 73, 74, 75, 76, 77, 78, 79, 80, 81, 82, 83, 84, 85, 86, 87, 88] (by decide +kernel) (by decide +kernel)
set_option maxRecDepth 20000 in
theorem gX8_kind_X8_becomesOf : GoodIn wsX8_kind (wsV RX8 164 RX8 yX8_becomesOf wsX8_becomesOf) := goodIn_app (goodIn_of _ (by decide +kernel)) ggX8_kind_X8_becomesOf
set_option maxRecDepth 20000 in
theorem ggX8_kind_X8_daysTo : GoodIn wsX8_kind wsX8_daysTo := goodIn_r _ [26, 27, 28, 29, 4, 30, 6, 31, 32, 33, 34, 17, 35, 36, 37, 38, 39, 40, 41, 42, 43, 44, 45, 46, 47, 48, 49, 50, 19, 20, 21, 22, 51, 52, 53, 54, 55, 56, 57, 58, 59, 60, 61, 62, 63, 64, 65, 66, 67, 68, 69, 70, 71, 72, 73, 74, 75, 76, 77, 78, 79, 80, 81, 82, 83, 84, 85, 86, 87, 88] (by decide +kernel) (by decide +kernel)
set_option maxRecDepth 20000 in
theorem gX8_kind_X8_daysTo : GoodIn wsX8_kind (wsV RX8 236 RX8 yX8_daysTo wsX8_daysTo) := goodIn_app (goodIn_of _ (by decide +kernel)) ggX8_kind_X8_daysTo
theorem dX8_kind_0 : decode cX8_kind 0 = .ok (.aload_n 0, 1) := by decide +kernel
theorem dX8_kind_1 : decode cX8_kind 1 = .ok (.iload_n 1, 1) := by decide +kernel
theorem dX8_kind_2 : decode cX8_kind 2 = .ok (.invokevirtual 145, 3) := by decide +kernel
theorem dX8_kind_5 : decode cX8_kind 5 = .ok (.ifCond .eq 10, 3) := by decide +kernel
theorem dX8_kind_8 : decode cX8_kind 8 = .ok (.iload_n 2, 1) := by decide +kernel
theorem dX8_kind_9 : decode cX8_kind 9 = .ok (.invokestatic 248, 3) := by decide +kernel
theorem dX8_kind_12 : decode cX8_kind 12 = .ok (.ifCond .ne 5, 3) := by decide +kernel
theorem dX8_kind_15 : decode cX8_kind 15 = .ok (.iconst (-1), 1) := by decide +kernel
theorem dX8_kind_16 : decode cX8_kind 16 = .ok (.ireturn, 1) := by decide +kernel
theorem dX8_kind_17 : decode cX8_kind 17 = .ok (.bipush 61, 2) := by decide +kernel
theorem dX8_kind_19 : decode cX8_kind 19 = .ok (.istore_n 3, 1) := by decide +kernel
theorem dX8_kind_20 : decode cX8_kind 20 = .ok (.bipush (-4), 2) := by decide +kernel
theorem dX8_kind_22 : decode cX8_kind 22 = .ok (.istore 4, 2) := by decide +kernel
theorem dX8_kind_24 : decode cX8_kind 24 = .ok (.iconst 0, 1) := by decide +kernel

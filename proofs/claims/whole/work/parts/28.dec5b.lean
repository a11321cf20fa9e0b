theorem dX5_splits_71 : decode cX5_splits 71 = .ok (.iconst 0, 1) := by decide +kernel
theorem dX5_splits_72 : decode cX5_splits 72 = .ok (.istore 5, 2) := by decide +kernel
theorem dX5_splits_74 : decode cX5_splits 74 = .ok (.aload_n 0, 1) := by decide +kernel
theorem dX5_splits_75 : decode cX5_splits 75 = .ok (.getfield 25, 3) := by decide +kernel
theorem dX5_splits_78 : decode cX5_splits 78 = .ok (.iload 4, 2) := by decide +kernel
theorem dX5_splits_80 : decode cX5_splits 80 = .ok (.iload 5, 2) := by decide +kernel
theorem dX5_splits_82 : decode cX5_splits 82 = .ok (.ifCond .eq 7, 3) := by decide +kernel
theorem dX5_splits_85 : decode cX5_splits 85 = .ok (.iload_n 3, 1) := by decide +kernel
theorem dX5_splits_86 : decode cX5_splits 86 = .ok (.goto 10, 3) := by decide +kernel
theorem dX5_splits_89 : decode cX5_splits 89 = .ok (.aload_n 0, 1) := by decide +kernel
theorem dX5_splits_90 : decode cX5_splits 90 = .ok (.getfield 22, 3) := by decide +kernel
theorem dX5_splits_93 : decode cX5_splits 93 = .ok (.iload 4, 2) := by decide +kernel
theorem dX5_splits_95 : decode cX5_splits 95 = .ok (.iaload, 1) := by decide +kernel
theorem dX5_splits_96 : decode cX5_splits 96 = .ok (.iastore, 1) := by decide +kernel
theorem dX5_splits_97 : decode cX5_splits 97 = .ok (.iinc 4 1, 3) := by decide +kernel
theorem dX5_splits_100 : decode cX5_splits 100 = .ok (.goto (-72), 3) := by decide +kernel
theorem dX5_splits_103 : decode cX5_splits 103 = .ok (.aload_n 0, 1) := by decide +kernel
theorem dX5_splits_104 : decode cX5_splits 104 = .ok (.getfield 62, 3) := by decide +kernel
theorem dX5_splits_107 : decode cX5_splits 107 = .ok (.iconst 0, 1) := by decide +kernel
theorem dX5_splits_108 : decode cX5_splits 108 = .ok (.iload_n 1, 1) := by decide +kernel
theorem dX5_splits_109 : decode cX5_splits 109 = .ok (.iastore, 1) := by decide +kernel
theorem dX5_splits_110 : decode cX5_splits 110 = .ok (.aload_n 0, 1) := by decide +kernel
theorem dX5_splits_111 : decode cX5_splits 111 = .ok (.getfield 62, 3) := by decide +kernel
theorem dX5_splits_114 : decode cX5_splits 114 = .ok (.iconst 1, 1) := by decide +kernel
theorem dX5_splits_115 : decode cX5_splits 115 = .ok (.iload_n 3, 1) := by decide +kernel
theorem dX5_splits_116 : decode cX5_splits 116 = .ok (.iastore, 1) := by decide +kernel
theorem dX5_splits_117 : decode cX5_splits 117 = .ok (.aload_n 0, 1) := by decide +kernel
theorem dX5_splits_118 : decode cX5_splits 118 = .ok (.aload_n 0, 1) := by decide +kernel
theorem dX5_splits_119 : decode cX5_splits 119 = .ok (.iconst 2, 1) := by decide +kernel
theorem dX5_splits_120 : decode cX5_splits 120 = .ok (.invokevirtual 160, 3) := by decide +kernel
theorem dX5_splits_123 : decode cX5_splits 123 = .ok (.putfield 124, 3) := by decide +kernel
theorem dX5_splits_126 : decode cX5_splits 126 = .ok (.aload_n 0, 1) := by decide +kernel
theorem dX5_splits_127 : decode cX5_splits 127 = .ok (.getfield 124, 3) := by decide +kernel
theorem dX5_splits_130 : decode cX5_splits 130 = .ok (.aload_n 0, 1) := by decide +kernel
theorem dX5_splits_131 : decode cX5_splits 131 = .ok (.getfield 72, 3) := by decide +kernel
theorem dX5_splits_134 : decode cX5_splits 134 = .ok (.if_icmp .le 5, 3) := by decide +kernel
theorem dX5_splits_137 : decode cX5_splits 137 = .ok (.iconst 2, 1) := by decide +kernel
theorem dX5_splits_138 : decode cX5_splits 138 = .ok (.ireturn, 1) := by decide +kernel
theorem dX5_splits_139 : decode cX5_splits 139 = .ok (.iconst 0, 1) := by decide +kernel
theorem dX5_splits_140 : decode cX5_splits 140 = .ok (.istore 4, 2) := by decide +kernel
theorem dX5_splits_142 : decode cX5_splits 142 = .ok (.iload 4, 2) := by decide +kernel
theorem dX5_splits_144 : decode cX5_splits 144 = .ok (.iconst 1, 1) := by decide +kernel
theorem dX5_splits_145 : decode cX5_splits 145 = .ok (.aload_n 0, 1) := by decide +kernel
theorem dX5_splits_146 : decode cX5_splits 146 = .ok (.getfield 95, 3) := by decide +kernel
theorem dX5_splits_149 : decode cX5_splits 149 = .ok (.ishl, 1) := by decide +kernel
theorem dX5_splits_150 : decode cX5_splits 150 = .ok (.if_icmp .ge 23, 3) := by decide +kernel
theorem dX5_splits_153 : decode cX5_splits 153 = .ok (.aload_n 0, 1) := by decide +kernel
theorem dX5_splits_154 : decode cX5_splits 154 = .ok (.getfield 22, 3) := by decide +kernel
theorem dX5_splits_157 : decode cX5_splits 157 = .ok (.iload 4, 2) := by decide +kernel
theorem dX5_splits_159 : decode cX5_splits 159 = .ok (.aload_n 0, 1) := by decide +kernel
theorem dX5_splits_160 : decode cX5_splits 160 = .ok (.getfield 25, 3) := by decide +kernel
theorem dX5_splits_163 : decode cX5_splits 163 = .ok (.iload 4, 2) := by decide +kernel
theorem dX5_splits_165 : decode cX5_splits 165 = .ok (.iaload, 1) := by decide +kernel
theorem dX5_splits_166 : decode cX5_splits 166 = .ok (.iastore, 1) := by decide +kernel
theorem dX5_splits_167 : decode cX5_splits 167 = .ok (.iinc 4 1, 3) := by decide +kernel
theorem dX5_splits_170 : decode cX5_splits 170 = .ok (.goto (-28), 3) := by decide +kernel
theorem dX5_splits_173 : decode cX5_splits 173 = .ok (.aload_n 0, 1) := by decide +kernel
theorem dX5_splits_174 : decode cX5_splits 174 = .ok (.getfield 28, 3) := by decide +kernel
theorem dX5_splits_177 : decode cX5_splits 177 = .ok (.iload_n 3, 1) := by decide +kernel
theorem dX5_splits_178 : decode cX5_splits 178 = .ok (.iconst 1, 1) := by decide +kernel
theorem dX5_splits_179 : decode cX5_splits 179 = .ok (.bastore, 1) := by decide +kernel
theorem dX5_splits_180 : decode cX5_splits 180 = .ok (.aload_n 0, 1) := by decide +kernel
theorem dX5_splits_181 : decode cX5_splits 181 = .ok (.getfield 32, 3) := by decide +kernel
theorem dX5_splits_184 : decode cX5_splits 184 = .ok (.iload_n 1, 1) := by decide +kernel
theorem dX5_splits_185 : decode cX5_splits 185 = .ok (.iload_n 2, 1) := by decide +kernel
theorem dX5_splits_186 : decode cX5_splits 186 = .ok (.iconst 1, 1) := by decide +kernel
theorem dX5_splits_187 : decode cX5_splits 187 = .ok (.iadd, 1) := by decide +kernel
theorem dX5_splits_188 : decode cX5_splits 188 = .ok (.iastore, 1) := by decide +kernel
theorem dX5_splits_189 : decode cX5_splits 189 = .ok (.aload_n 0, 1) := by decide +kernel
theorem dX5_splits_190 : decode cX5_splits 190 = .ok (.getfield 32, 3) := by decide +kernel
theorem dX5_splits_193 : decode cX5_splits 193 = .ok (.iload_n 3, 1) := by decide +kernel
theorem dX5_splits_194 : decode cX5_splits 194 = .ok (.iload_n 2, 1) := by decide +kernel
theorem dX5_splits_195 : decode cX5_splits 195 = .ok (.iconst 1, 1) := by decide +kernel
theorem dX5_splits_196 : decode cX5_splits 196 = .ok (.iadd, 1) := by decide +kernel
theorem dX5_splits_197 : decode cX5_splits 197 = .ok (.iastore, 1) := by decide +kernel
theorem dX5_splits_198 : decode cX5_splits 198 = .ok (.aload_n 0, 1) := by decide +kernel
theorem dX5_splits_199 : decode cX5_splits 199 = .ok (.getfield 35, 3) := by decide +kernel
theorem dX5_splits_202 : decode cX5_splits 202 = .ok (.iload_n 3, 1) := by decide +kernel
theorem dX5_splits_203 : decode cX5_splits 203 = .ok (.iconst 0, 1) := by decide +kernel
theorem dX5_splits_204 : decode cX5_splits 204 = .ok (.iastore, 1) := by decide +kernel
theorem dX5_splits_205 : decode cX5_splits 205 = .ok (.iconst 0, 1) := by decide +kernel
theorem dX5_splits_206 : decode cX5_splits 206 = .ok (.istore 4, 2) := by decide +kernel
theorem dX5_splits_208 : decode cX5_splits 208 = .ok (.iload 4, 2) := by decide +kernel
theorem dX5_splits_210 : decode cX5_splits 210 = .ok (.aload_n 0, 1) := by decide +kernel
theorem dX5_splits_211 : decode cX5_splits 211 = .ok (.getfield 35, 3) := by decide +kernel
theorem dX5_splits_214 : decode cX5_splits 214 = .ok (.iload_n 1, 1) := by decide +kernel
theorem dX5_splits_215 : decode cX5_splits 215 = .ok (.iaload, 1) := by decide +kernel
theorem dX5_splits_216 : decode cX5_splits 216 = .ok (.if_icmp .ge 72, 3) := by decide +kernel
theorem dX5_splits_219 : decode cX5_splits 219 = .ok (.bipush 90, 2) := by decide +kernel
theorem dX5_splits_221 : decode cX5_splits 221 = .ok (.iload_n 1, 1) := by decide +kernel
theorem dX5_splits_222 : decode cX5_splits 222 = .ok (.imul, 1) := by decide +kernel
theorem dX5_splits_223 : decode cX5_splits 223 = .ok (.iload 4, 2) := by decide +kernel
theorem dX5_splits_225 : decode cX5_splits 225 = .ok (.iadd, 1) := by decide +kernel
theorem dX5_splits_226 : decode cX5_splits 226 = .ok (.istore 5, 2) := by decide +kernel
theorem dX5_splits_228 : decode cX5_splits 228 = .ok (.aload_n 0, 1) := by decide +kernel
theorem dX5_splits_229 : decode cX5_splits 229 = .ok (.iload 5, 2) := by decide +kernel
theorem dX5_splits_231 : decode cX5_splits 231 = .ok (.invokevirtual 163, 3) := by decide +kernel
theorem dX5_splits_234 : decode cX5_splits 234 = .ok (.bipush 15, 2) := by decide +kernel
theorem dX5_splits_236 : decode cX5_splits 236 = .ok (.iload_n 2, 1) := by decide +kernel
theorem dX5_splits_237 : decode cX5_splits 237 = .ok (.isub, 1) := by decide +kernel
theorem dX5_splits_238 : decode cX5_splits 238 = .ok (.ishr, 1) := by decide +kernel
theorem dX5_splits_239 : decode cX5_splits 239 = .ok (.iconst 1, 1) := by decide +kernel
theorem dX5_splits_240 : decode cX5_splits 240 = .ok (.iand, 1) := by decide +kernel
theorem dX5_splits_241 : decode cX5_splits 241 = .ok (.iconst 1, 1) := by decide +kernel
theorem dX5_splits_242 : decode cX5_splits 242 = .ok (.if_icmp .ne 40, 3) := by decide +kernel
theorem dX5_splits_245 : decode cX5_splits 245 = .ok (.aload_n 0, 1) := by decide +kernel
theorem dX5_splits_246 : decode cX5_splits 246 = .ok (.iload 5, 2) := by decide +kernel
theorem dX5_splits_248 : decode cX5_splits 248 = .ok (.bipush 90, 2) := by decide +kernel
theorem dX5_splits_250 : decode cX5_splits 250 = .ok (.iload_n 3, 1) := by decide +kernel
theorem dX5_splits_251 : decode cX5_splits 251 = .ok (.imul, 1) := by decide +kernel
theorem dX5_splits_252 : decode cX5_splits 252 = .ok (.aload_n 0, 1) := by decide +kernel
theorem dX5_splits_253 : decode cX5_splits 253 = .ok (.getfield 35, 3) := by decide +kernel
theorem dX5_splits_256 : decode cX5_splits 256 = .ok (.iload_n 3, 1) := by decide +kernel
theorem dX5_splits_257 : decode cX5_splits 257 = .ok (.iaload, 1) := by decide +kernel
theorem dX5_splits_258 : decode cX5_splits 258 = .ok (.iadd, 1) := by decide +kernel
theorem dX5_splits_259 : decode cX5_splits 259 = .ok (.invokevirtual 150, 3) := by decide +kernel
theorem dX5_splits_262 : decode cX5_splits 262 = .ok (.aload_n 0, 1) := by decide +kernel
theorem dX5_splits_263 : decode cX5_splits 263 = .ok (.getfield 35, 3) := by decide +kernel
theorem dX5_splits_266 : decode cX5_splits 266 = .ok (.iload_n 3, 1) := by decide +kernel
theorem dX5_splits_267 : decode cX5_splits 267 = .ok (.dup2, 1) := by decide +kernel
theorem dX5_splits_268 : decode cX5_splits 268 = .ok (.iaload, 1) := by decide +kernel
theorem dX5_splits_269 : decode cX5_splits 269 = .ok (.iconst 1, 1) := by decide +kernel
theorem dX5_splits_270 : decode cX5_splits 270 = .ok (.iadd, 1) := by decide +kernel
theorem dX5_splits_271 : decode cX5_splits 271 = .ok (.iastore, 1) := by decide +kernel
theorem dX5_splits_272 : decode cX5_splits 272 = .ok (.aload_n 0, 1) := by decide +kernel
theorem dX5_splits_273 : decode cX5_splits 273 = .ok (.iload_n 1, 1) := by decide +kernel
theorem dX5_splits_274 : decode cX5_splits 274 = .ok (.iload 4, 2) := by decide +kernel
theorem dX5_splits_276 : decode cX5_splits 276 = .ok (.invokevirtual 166, 3) := by decide +kernel
theorem dX5_splits_279 : decode cX5_splits 279 = .ok (.goto 6, 3) := by decide +kernel
theorem dX5_splits_282 : decode cX5_splits 282 = .ok (.iinc 4 1, 3) := by decide +kernel
theorem dX5_splits_285 : decode cX5_splits 285 = .ok (.goto (-77), 3) := by decide +kernel
theorem dX5_splits_288 : decode cX5_splits 288 = .ok (.aload_n 0, 1) := by decide +kernel
theorem dX5_splits_289 : decode cX5_splits 289 = .ok (.invokevirtual 156, 3) := by decide +kernel
theorem dX5_splits_292 : decode cX5_splits 292 = .ok (.ireturn, 1) := by decide +kernel
theorem dX5_isAlike_0 : decode cX5_isAlike 0 = .ok (.iconst 1, 1) := by decide +kernel
theorem dX5_isAlike_1 : decode cX5_isAlike 1 = .ok (.istore_n 3, 1) := by decide +kernel
theorem dX5_isAlike_2 : decode cX5_isAlike 2 = .ok (.iconst 0, 1) := by decide +kernel
theorem dX5_isAlike_3 : decode cX5_isAlike 3 = .ok (.istore 4, 2) := by decide +kernel
theorem dX5_isAlike_5 : decode cX5_isAlike 5 = .ok (.iload 4, 2) := by decide +kernel
theorem dX5_isAlike_7 : decode cX5_isAlike 7 = .ok (.aload_n 0, 1) := by decide +kernel
theorem dX5_isAlike_8 : decode cX5_isAlike 8 = .ok (.getfield 35, 3) := by decide +kernel
theorem dX5_isAlike_11 : decode cX5_isAlike 11 = .ok (.iload_n 1, 1) := by decide +kernel
theorem dX5_isAlike_12 : decode cX5_isAlike 12 = .ok (.iaload, 1) := by decide +kernel
theorem dX5_isAlike_13 : decode cX5_isAlike 13 = .ok (.if_icmp .ge 34, 3) := by decide +kernel
theorem dX5_isAlike_16 : decode cX5_isAlike 16 = .ok (.iload_n 3, 1) := by decide +kernel
theorem dX5_isAlike_17 : decode cX5_isAlike 17 = .ok (.ifCond .eq 22, 3) := by decide +kernel
theorem dX5_isAlike_20 : decode cX5_isAlike 20 = .ok (.aload_n 0, 1) := by decide +kernel
theorem dX5_isAlike_21 : decode cX5_isAlike 21 = .ok (.bipush 90, 2) := by decide +kernel
theorem dX5_isAlike_23 : decode cX5_isAlike 23 = .ok (.iload_n 1, 1) := by decide +kernel
theorem dX5_isAlike_24 : decode cX5_isAlike 24 = .ok (.imul, 1) := by decide +kernel
theorem dX5_isAlike_25 : decode cX5_isAlike 25 = .ok (.iload 4, 2) := by decide +kernel
theorem dX5_isAlike_27 : decode cX5_isAlike 27 = .ok (.iadd, 1) := by decide +kernel
theorem dX5_isAlike_28 : decode cX5_isAlike 28 = .ok (.invokevirtual 163, 3) := by decide +kernel
theorem dX5_isAlike_31 : decode cX5_isAlike 31 = .ok (.iload_n 2, 1) := by decide +kernel
theorem dX5_isAlike_32 : decode cX5_isAlike 32 = .ok (.if_icmp .ne 7, 3) := by decide +kernel
theorem dX5_isAlike_35 : decode cX5_isAlike 35 = .ok (.iconst 1, 1) := by decide +kernel
theorem dX5_isAlike_36 : decode cX5_isAlike 36 = .ok (.goto 4, 3) := by decide +kernel
theorem dX5_isAlike_39 : decode cX5_isAlike 39 = .ok (.iconst 0, 1) := by decide +kernel
theorem dX5_isAlike_40 : decode cX5_isAlike 40 = .ok (.istore_n 3, 1) := by decide +kernel
theorem dX5_isAlike_41 : decode cX5_isAlike 41 = .ok (.iinc 4 1, 3) := by decide +kernel
theorem dX5_isAlike_44 : decode cX5_isAlike 44 = .ok (.goto (-39), 3) := by decide +kernel
theorem dX5_isAlike_47 : decode cX5_isAlike 47 = .ok (.iload_n 3, 1) := by decide +kernel
theorem dX5_isAlike_48 : decode cX5_isAlike 48 = .ok (.ireturn, 1) := by decide +kernel
theorem dX5_filled_0 : decode cX5_filled 0 = .ok (.aload_n 0, 1) := by decide +kernel
theorem dX5_filled_1 : decode cX5_filled 1 = .ok (.iload_n 1, 1) := by decide +kernel
theorem dX5_filled_2 : decode cX5_filled 2 = .ok (.iload_n 2, 1) := by decide +kernel
theorem dX5_filled_3 : decode cX5_filled 3 = .ok (.invokevirtual 169, 3) := by decide +kernel
theorem dX5_filled_6 : decode cX5_filled 6 = .ok (.istore 4, 2) := by decide +kernel
theorem dX5_filled_8 : decode cX5_filled 8 = .ok (.iload 4, 2) := by decide +kernel
theorem dX5_filled_10 : decode cX5_filled 10 = .ok (.iconst (-1), 1) := by decide +kernel
theorem dX5_filled_11 : decode cX5_filled 11 = .ok (.if_icmp .ne 7, 3) := by decide +kernel
theorem dX5_filled_14 : decode cX5_filled 14 = .ok (.iconst 0, 1) := by decide +kernel
theorem dX5_filled_15 : decode cX5_filled 15 = .ok (.goto 19, 3) := by decide +kernel
theorem dX5_filled_18 : decode cX5_filled 18 = .ok (.iconst 2, 1) := by decide +kernel
theorem dX5_filled_19 : decode cX5_filled 19 = .ok (.iload_n 2, 1) := by decide +kernel
theorem dX5_filled_20 : decode cX5_filled 20 = .ok (.iadd, 1) := by decide +kernel
theorem dX5_filled_21 : decode cX5_filled 21 = .ok (.aload_n 0, 1) := by decide +kernel
theorem dX5_filled_22 : decode cX5_filled 22 = .ok (.getfield 41, 3) := by decide +kernel
theorem dX5_filled_25 : decode cX5_filled 25 = .ok (.bipush 90, 2) := by decide +kernel
theorem dX5_filled_27 : decode cX5_filled 27 = .ok (.iload_n 1, 1) := by decide +kernel
theorem dX5_filled_28 : decode cX5_filled 28 = .ok (.imul, 1) := by decide +kernel
theorem dX5_filled_29 : decode cX5_filled 29 = .ok (.iload 4, 2) := by decide +kernel
theorem dX5_filled_31 : decode cX5_filled 31 = .ok (.iadd, 1) := by decide +kernel
theorem dX5_filled_32 : decode cX5_filled 32 = .ok (.iaload, 1) := by decide +kernel
theorem dX5_filled_33 : decode cX5_filled 33 = .ok (.iadd, 1) := by decide +kernel
theorem dX5_filled_34 : decode cX5_filled 34 = .ok (.istore 5, 2) := by decide +kernel
theorem dX5_filled_36 : decode cX5_filled 36 = .ok (.aload_n 0, 1) := by decide +kernel
theorem dX5_filled_37 : decode cX5_filled 37 = .ok (.iload_n 1, 1) := by decide +kernel
theorem dX5_filled_38 : decode cX5_filled 38 = .ok (.invokevirtual 117, 3) := by decide +kernel
theorem dX5_filled_41 : decode cX5_filled 41 = .ok (.iload 5, 2) := by decide +kernel
theorem dX5_filled_43 : decode cX5_filled 43 = .ok (.isub, 1) := by decide +kernel
theorem dX5_filled_44 : decode cX5_filled 44 = .ok (.iconst 2, 1) := by decide +kernel
theorem dX5_filled_45 : decode cX5_filled 45 = .ok (.iadd, 1) := by decide +kernel
theorem dX5_filled_46 : decode cX5_filled 46 = .ok (.iload_n 3, 1) := by decide +kernel
theorem dX5_filled_47 : decode cX5_filled 47 = .ok (.iadd, 1) := by decide +kernel
theorem dX5_filled_48 : decode cX5_filled 48 = .ok (.ireturn, 1) := by decide +kernel
theorem dX5_put_0 : decode cX5_put 0 = .ok (.aload_n 0, 1) := by decide +kernel
theorem dX5_put_1 : decode cX5_put 1 = .ok (.iconst 0, 1) := by decide +kernel
theorem dX5_put_2 : decode cX5_put 2 = .ok (.putfield 1, 3) := by decide +kernel
theorem dX5_put_5 : decode cX5_put 5 = .ok (.aload_n 0, 1) := by decide +kernel
theorem dX5_put_6 : decode cX5_put 6 = .ok (.getfield 172, 3) := by decide +kernel
theorem dX5_put_9 : decode cX5_put 9 = .ok (.istore_n 2, 1) := by decide +kernel
theorem dX5_put_10 : decode cX5_put 10 = .ok (.aload_n 0, 1) := by decide +kernel
theorem dX5_put_11 : decode cX5_put 11 = .ok (.iconst 0, 1) := by decide +kernel
theorem dX5_put_12 : decode cX5_put 12 = .ok (.putfield 172, 3) := by decide +kernel
theorem dX5_put_15 : decode cX5_put 15 = .ok (.aload_n 0, 1) := by decide +kernel
theorem dX5_put_16 : decode cX5_put 16 = .ok (.getfield 81, 3) := by decide +kernel
theorem dX5_put_19 : decode cX5_put 19 = .ok (.ifCond .eq 9, 3) := by decide +kernel
theorem dX5_put_22 : decode cX5_put 22 = .ok (.aload_n 0, 1) := by decide +kernel
theorem dX5_put_23 : decode cX5_put 23 = .ok (.iconst 1, 1) := by decide +kernel
theorem dX5_put_24 : decode cX5_put 24 = .ok (.invokevirtual 175, 3) := by decide +kernel
theorem dX5_put_27 : decode cX5_put 27 = .ok (.ireturn, 1) := by decide +kernel
theorem dX5_put_28 : decode cX5_put 28 = .ok (.iload_n 1, 1) := by decide +kernel
theorem dX5_put_29 : decode cX5_put 29 = .ok (.iconst 1, 1) := by decide +kernel
theorem dX5_put_30 : decode cX5_put 30 = .ok (.if_icmp .lt 22, 3) := by decide +kernel
theorem dX5_put_33 : decode cX5_put 33 = .ok (.iload_n 1, 1) := by decide +kernel
theorem dX5_put_34 : decode cX5_put 34 = .ok (.bipush 16, 2) := by decide +kernel
theorem dX5_put_36 : decode cX5_put 36 = .ok (.if_icmp .gt 16, 3) := by decide +kernel
theorem dX5_put_39 : decode cX5_put 39 = .ok (.iload_n 1, 1) := by decide +kernel
theorem dX5_put_40 : decode cX5_put 40 = .ok (.iload_n 2, 1) := by decide +kernel
theorem dX5_put_41 : decode cX5_put 41 = .ok (.if_icmp .gt 11, 3) := by decide +kernel
theorem dX5_put_44 : decode cX5_put 44 = .ok (.iload_n 2, 1) := by decide +kernel
theorem dX5_put_45 : decode cX5_put 45 = .ok (.iload_n 1, 1) := by decide +kernel
theorem dX5_put_46 : decode cX5_put 46 = .ok (.isub, 1) := by decide +kernel
theorem dX5_put_47 : decode cX5_put 47 = .ok (.bipush 32, 2) := by decide +kernel
theorem dX5_put_49 : decode cX5_put 49 = .ok (.if_icmp .le 9, 3) := by decide +kernel
theorem dX5_put_52 : decode cX5_put 52 = .ok (.aload_n 0, 1) := by decide +kernel
theorem dX5_put_53 : decode cX5_put 53 = .ok (.iconst 2, 1) := by decide +kernel
theorem dX5_put_54 : decode cX5_put 54 = .ok (.invokevirtual 175, 3) := by decide +kernel
theorem dX5_put_57 : decode cX5_put 57 = .ok (.ireturn, 1) := by decide +kernel
theorem dX5_put_58 : decode cX5_put 58 = .ok (.aload_n 0, 1) := by decide +kernel
theorem dX5_put_59 : decode cX5_put 59 = .ok (.iload_n 1, 1) := by decide +kernel
theorem dX5_put_60 : decode cX5_put 60 = .ok (.invokevirtual 140, 3) := by decide +kernel
theorem dX5_put_63 : decode cX5_put 63 = .ok (.istore_n 3, 1) := by decide +kernel
theorem dX5_put_64 : decode cX5_put 64 = .ok (.aload_n 0, 1) := by decide +kernel
theorem dX5_put_65 : decode cX5_put 65 = .ok (.iload_n 1, 1) := by decide +kernel
theorem dX5_put_66 : decode cX5_put 66 = .ok (.invokevirtual 178, 3) := by decide +kernel
theorem dX5_put_69 : decode cX5_put 69 = .ok (.istore 4, 2) := by decide +kernel
theorem dX5_put_71 : decode cX5_put 71 = .ok (.aload_n 0, 1) := by decide +kernel
theorem dX5_put_72 : decode cX5_put 72 = .ok (.iload 4, 2) := by decide +kernel
theorem dX5_put_74 : decode cX5_put 74 = .ok (.iload_n 1, 1) := by decide +kernel
theorem dX5_put_75 : decode cX5_put 75 = .ok (.iload_n 2, 1) := by decide +kernel
theorem dX5_put_76 : decode cX5_put 76 = .ok (.invokevirtual 181, 3) := by decide +kernel
theorem dX5_put_79 : decode cX5_put 79 = .ok (.sipush 252, 3) := by decide +kernel
theorem dX5_put_82 : decode cX5_put 82 = .ok (.if_icmp .le 62, 3) := by decide +kernel
theorem dX5_put_85 : decode cX5_put 85 = .ok (.aload_n 0, 1) := by decide +kernel
theorem dX5_put_86 : decode cX5_put 86 = .ok (.iload 4, 2) := by decide +kernel
theorem dX5_put_88 : decode cX5_put 88 = .ok (.iload_n 3, 1) := by decide +kernel
theorem dX5_put_89 : decode cX5_put 89 = .ok (.invokevirtual 185, 3) := by decide +kernel
theorem dX5_put_92 : decode cX5_put 92 = .ok (.ifCond .eq 5, 3) := by decide +kernel
theorem dX5_put_95 : decode cX5_put 95 = .ok (.iconst 3, 1) := by decide +kernel
theorem dX5_put_96 : decode cX5_put 96 = .ok (.ireturn, 1) := by decide +kernel
theorem dX5_put_97 : decode cX5_put 97 = .ok (.aload_n 0, 1) := by decide +kernel
theorem dX5_put_98 : decode cX5_put 98 = .ok (.getfield 32, 3) := by decide +kernel
theorem dX5_put_101 : decode cX5_put 101 = .ok (.iload 4, 2) := by decide +kernel
theorem dX5_put_103 : decode cX5_put 103 = .ok (.iaload, 1) := by decide +kernel
theorem dX5_put_104 : decode cX5_put 104 = .ok (.aload_n 0, 1) := by decide +kernel
theorem dX5_put_105 : decode cX5_put 105 = .ok (.getfield 95, 3) := by decide +kernel
theorem dX5_put_108 : decode cX5_put 108 = .ok (.if_icmp .ne 10, 3) := by decide +kernel
theorem dX5_put_111 : decode cX5_put 111 = .ok (.aload_n 0, 1) := by decide +kernel
theorem dX5_put_112 : decode cX5_put 112 = .ok (.invokevirtual 188, 3) := by decide +kernel
theorem dX5_put_115 : decode cX5_put 115 = .ok (.goto 9, 3) := by decide +kernel
theorem dX5_put_118 : decode cX5_put 118 = .ok (.aload_n 0, 1) := by decide +kernel
theorem dX5_put_119 : decode cX5_put 119 = .ok (.iload 4, 2) := by decide +kernel
theorem dX5_put_121 : decode cX5_put 121 = .ok (.invokevirtual 191, 3) := by decide +kernel
theorem dX5_put_124 : decode cX5_put 124 = .ok (.istore 5, 2) := by decide +kernel
theorem dX5_put_126 : decode cX5_put 126 = .ok (.iload 5, 2) := by decide +kernel
theorem dX5_put_128 : decode cX5_put 128 = .ok (.ifCond .eq 6, 3) := by decide +kernel
theorem dX5_put_131 : decode cX5_put 131 = .ok (.iload 5, 2) := by decide +kernel
theorem dX5_put_133 : decode cX5_put 133 = .ok (.ireturn, 1) := by decide +kernel
theorem dX5_put_134 : decode cX5_put 134 = .ok (.aload_n 0, 1) := by decide +kernel
theorem dX5_put_135 : decode cX5_put 135 = .ok (.iload_n 1, 1) := by decide +kernel
theorem dX5_put_136 : decode cX5_put 136 = .ok (.invokevirtual 178, 3) := by decide +kernel
theorem dX5_put_139 : decode cX5_put 139 = .ok (.istore 4, 2) := by decide +kernel
theorem dX5_put_141 : decode cX5_put 141 = .ok (.goto (-70), 3) := by decide +kernel
theorem dX5_put_144 : decode cX5_put 144 = .ok (.aload_n 0, 1) := by decide +kernel
theorem dX5_put_145 : decode cX5_put 145 = .ok (.iload 4, 2) := by decide +kernel
theorem dX5_put_147 : decode cX5_put 147 = .ok (.iload_n 1, 1) := by decide +kernel
theorem dX5_put_148 : decode cX5_put 148 = .ok (.invokevirtual 169, 3) := by decide +kernel
theorem dX5_put_151 : decode cX5_put 151 = .ok (.istore 5, 2) := by decide +kernel
theorem dX5_put_153 : decode cX5_put 153 = .ok (.iload 5, 2) := by decide +kernel
theorem dX5_put_155 : decode cX5_put 155 = .ok (.iconst (-1), 1) := by decide +kernel
theorem dX5_put_156 : decode cX5_put 156 = .ok (.if_icmp .eq 11, 3) := by decide +kernel
theorem dX5_put_159 : decode cX5_put 159 = .ok (.aload_n 0, 1) := by decide +kernel
theorem dX5_put_160 : decode cX5_put 160 = .ok (.iload 4, 2) := by decide +kernel
theorem dX5_put_162 : decode cX5_put 162 = .ok (.iload 5, 2) := by decide +kernel
theorem dX5_put_164 : decode cX5_put 164 = .ok (.invokevirtual 166, 3) := by decide +kernel
theorem dX5_put_167 : decode cX5_put 167 = .ok (.bipush 90, 2) := by decide +kernel
theorem dX5_put_169 : decode cX5_put 169 = .ok (.iload 4, 2) := by decide +kernel
theorem dX5_put_171 : decode cX5_put 171 = .ok (.imul, 1) := by decide +kernel
theorem dX5_put_172 : decode cX5_put 172 = .ok (.aload_n 0, 1) := by decide +kernel
theorem dX5_put_173 : decode cX5_put 173 = .ok (.getfield 35, 3) := by decide +kernel
theorem dX5_put_176 : decode cX5_put 176 = .ok (.iload 4, 2) := by decide +kernel
theorem dX5_put_178 : decode cX5_put 178 = .ok (.iaload, 1) := by decide +kernel
theorem dX5_put_179 : decode cX5_put 179 = .ok (.iadd, 1) := by decide +kernel
theorem dX5_put_180 : decode cX5_put 180 = .ok (.istore 6, 2) := by decide +kernel
theorem dX5_put_182 : decode cX5_put 182 = .ok (.aload_n 0, 1) := by decide +kernel
theorem dX5_put_183 : decode cX5_put 183 = .ok (.getfield 35, 3) := by decide +kernel
theorem dX5_put_186 : decode cX5_put 186 = .ok (.iload 4, 2) := by decide +kernel
theorem dX5_put_188 : decode cX5_put 188 = .ok (.dup2, 1) := by decide +kernel
theorem dX5_put_189 : decode cX5_put 189 = .ok (.iaload, 1) := by decide +kernel
theorem dX5_put_190 : decode cX5_put 190 = .ok (.iconst 1, 1) := by decide +kernel
theorem dX5_put_191 : decode cX5_put 191 = .ok (.iadd, 1) := by decide +kernel
theorem dX5_put_192 : decode cX5_put 192 = .ok (.iastore, 1) := by decide +kernel
theorem dX5_put_193 : decode cX5_put 193 = .ok (.aload_n 0, 1) := by decide +kernel
theorem dX5_put_194 : decode cX5_put 194 = .ok (.getfield 38, 3) := by decide +kernel
theorem dX5_put_197 : decode cX5_put 197 = .ok (.iload 6, 2) := by decide +kernel
theorem dX5_put_199 : decode cX5_put 199 = .ok (.iload_n 1, 1) := by decide +kernel
theorem dX5_put_200 : decode cX5_put 200 = .ok (.iastore, 1) := by decide +kernel
theorem dX5_put_201 : decode cX5_put 201 = .ok (.aload_n 0, 1) := by decide +kernel
theorem dX5_put_202 : decode cX5_put 202 = .ok (.getfield 41, 3) := by decide +kernel
theorem dX5_put_205 : decode cX5_put 205 = .ok (.iload 6, 2) := by decide +kernel
theorem dX5_put_207 : decode cX5_put 207 = .ok (.iload_n 2, 1) := by decide +kernel
theorem dX5_put_208 : decode cX5_put 208 = .ok (.iload_n 1, 1) := by decide +kernel
theorem dX5_put_209 : decode cX5_put 209 = .ok (.isub, 1) := by decide +kernel
theorem dX5_put_210 : decode cX5_put 210 = .ok (.iastore, 1) := by decide +kernel
theorem dX5_put_211 : decode cX5_put 211 = .ok (.iconst 0, 1) := by decide +kernel
theorem dX5_put_212 : decode cX5_put 212 = .ok (.istore 7, 2) := by decide +kernel
theorem dX5_put_214 : decode cX5_put 214 = .ok (.iload 7, 2) := by decide +kernel
theorem dX5_put_216 : decode cX5_put 216 = .ok (.iconst 2, 1) := by decide +kernel
theorem dX5_put_217 : decode cX5_put 217 = .ok (.if_icmp .ge 22, 3) := by decide +kernel
theorem dX5_put_220 : decode cX5_put 220 = .ok (.aload_n 0, 1) := by decide +kernel
theorem dX5_put_221 : decode cX5_put 221 = .ok (.getfield 45, 3) := by decide +kernel
theorem dX5_put_224 : decode cX5_put 224 = .ok (.iconst 2, 1) := by decide +kernel
theorem dX5_put_225 : decode cX5_put 225 = .ok (.iload 6, 2) := by decide +kernel
theorem dX5_put_227 : decode cX5_put 227 = .ok (.imul, 1) := by decide +kernel
theorem dX5_put_228 : decode cX5_put 228 = .ok (.iload 7, 2) := by decide +kernel
theorem dX5_put_230 : decode cX5_put 230 = .ok (.iadd, 1) := by decide +kernel
theorem dX5_put_231 : decode cX5_put 231 = .ok (.lconst 0, 1) := by decide +kernel
theorem dX5_put_232 : decode cX5_put 232 = .ok (.lastore, 1) := by decide +kernel
theorem dX5_put_233 : decode cX5_put 233 = .ok (.iinc 7 1, 3) := by decide +kernel
theorem dX5_put_236 : decode cX5_put 236 = .ok (.goto (-22), 3) := by decide +kernel
theorem dX5_put_239 : decode cX5_put 239 = .ok (.iconst 0, 1) := by decide +kernel
theorem dX5_put_240 : decode cX5_put 240 = .ok (.istore 7, 2) := by decide +kernel
theorem dX5_put_242 : decode cX5_put 242 = .ok (.iload 7, 2) := by decide +kernel
theorem dX5_put_244 : decode cX5_put 244 = .ok (.iconst 4, 1) := by decide +kernel
theorem dX5_put_245 : decode cX5_put 245 = .ok (.if_icmp .ge 22, 3) := by decide +kernel
theorem dX5_put_248 : decode cX5_put 248 = .ok (.aload_n 0, 1) := by decide +kernel
theorem dX5_put_249 : decode cX5_put 249 = .ok (.getfield 50, 3) := by decide +kernel
theorem dX5_put_252 : decode cX5_put 252 = .ok (.iconst 4, 1) := by decide +kernel
theorem dX5_put_253 : decode cX5_put 253 = .ok (.iload 6, 2) := by decide +kernel
theorem dX5_put_255 : decode cX5_put 255 = .ok (.imul, 1) := by decide +kernel
theorem dX5_put_256 : decode cX5_put 256 = .ok (.iload 7, 2) := by decide +kernel
theorem dX5_put_258 : decode cX5_put 258 = .ok (.iadd, 1) := by decide +kernel
theorem dX5_put_259 : decode cX5_put 259 = .ok (.lconst 0, 1) := by decide +kernel
theorem dX5_put_260 : decode cX5_put 260 = .ok (.lastore, 1) := by decide +kernel
theorem dX5_put_261 : decode cX5_put 261 = .ok (.iinc 7 1, 3) := by decide +kernel
theorem dX5_put_264 : decode cX5_put 264 = .ok (.goto (-22), 3) := by decide +kernel
theorem dX5_put_267 : decode cX5_put 267 = .ok (.iconst 0, 1) := by decide +kernel
theorem dX5_put_268 : decode cX5_put 268 = .ok (.istore 7, 2) := by decide +kernel
theorem dX5_put_270 : decode cX5_put 270 = .ok (.iload 7, 2) := by decide +kernel
theorem dX5_put_272 : decode cX5_put 272 = .ok (.iload_n 1, 1) := by decide +kernel
theorem dX5_put_273 : decode cX5_put 273 = .ok (.if_icmp .ge 48, 3) := by decide +kernel
theorem dX5_put_276 : decode cX5_put 276 = .ok (.aload_n 0, 1) := by decide +kernel
theorem dX5_put_277 : decode cX5_put 277 = .ok (.getfield 45, 3) := by decide +kernel
theorem dX5_put_280 : decode cX5_put 280 = .ok (.iconst 2, 1) := by decide +kernel
theorem dX5_put_281 : decode cX5_put 281 = .ok (.iload 6, 2) := by decide +kernel
theorem dX5_put_283 : decode cX5_put 283 = .ok (.imul, 1) := by decide +kernel
theorem dX5_put_284 : decode cX5_put 284 = .ok (.iload 7, 2) := by decide +kernel
theorem dX5_put_286 : decode cX5_put 286 = .ok (.bipush 8, 2) := by decide +kernel
theorem dX5_put_288 : decode cX5_put 288 = .ok (.idiv, 1) := by decide +kernel
theorem dX5_put_289 : decode cX5_put 289 = .ok (.iadd, 1) := by decide +kernel
theorem dX5_put_290 : decode cX5_put 290 = .ok (.dup2, 1) := by decide +kernel
theorem dX5_put_291 : decode cX5_put 291 = .ok (.laload, 1) := by decide +kernel
theorem dX5_put_292 : decode cX5_put 292 = .ok (.aload_n 0, 1) := by decide +kernel
theorem dX5_put_293 : decode cX5_put 293 = .ok (.getfield 53, 3) := by decide +kernel
theorem dX5_put_296 : decode cX5_put 296 = .ok (.iload 7, 2) := by decide +kernel
theorem dX5_put_298 : decode cX5_put 298 = .ok (.baload, 1) := by decide +kernel
theorem dX5_put_299 : decode cX5_put 299 = .ok (.i2l, 1) := by decide +kernel
theorem dX5_put_300 : decode cX5_put 300 = .ok (.ldc2_w 194, 3) := by decide +kernel
theorem dX5_put_303 : decode cX5_put 303 = .ok (.land, 1) := by decide +kernel
theorem dX5_put_304 : decode cX5_put 304 = .ok (.bipush 8, 2) := by decide +kernel
theorem dX5_put_306 : decode cX5_put 306 = .ok (.iload 7, 2) := by decide +kernel
theorem dX5_put_308 : decode cX5_put 308 = .ok (.bipush 8, 2) := by decide +kernel
theorem dX5_put_310 : decode cX5_put 310 = .ok (.irem, 1) := by decide +kernel
theorem dX5_put_311 : decode cX5_put 311 = .ok (.imul, 1) := by decide +kernel
theorem dX5_put_312 : decode cX5_put 312 = .ok (.lshl, 1) := by decide +kernel
theorem dX5_put_313 : decode cX5_put 313 = .ok (.lor, 1) := by decide +kernel
theorem dX5_put_314 : decode cX5_put 314 = .ok (.lastore, 1) := by decide +kernel
theorem dX5_put_315 : decode cX5_put 315 = .ok (.iinc 7 1, 3) := by decide +kernel
theorem dX5_put_318 : decode cX5_put 318 = .ok (.goto (-48), 3) := by decide +kernel
theorem dX5_put_321 : decode cX5_put 321 = .ok (.iconst 0, 1) := by decide +kernel
theorem dX5_put_322 : decode cX5_put 322 = .ok (.istore 7, 2) := by decide +kernel
theorem dX5_put_324 : decode cX5_put 324 = .ok (.iload 7, 2) := by decide +kernel
theorem dX5_put_326 : decode cX5_put 326 = .ok (.iload_n 2, 1) := by decide +kernel
theorem dX5_put_327 : decode cX5_put 327 = .ok (.iload_n 1, 1) := by decide +kernel
theorem dX5_put_328 : decode cX5_put 328 = .ok (.isub, 1) := by decide +kernel
theorem dX5_put_329 : decode cX5_put 329 = .ok (.if_icmp .ge 50, 3) := by decide +kernel
theorem dX5_put_332 : decode cX5_put 332 = .ok (.aload_n 0, 1) := by decide +kernel
theorem dX5_put_333 : decode cX5_put 333 = .ok (.getfield 50, 3) := by decide +kernel
theorem dX5_put_336 : decode cX5_put 336 = .ok (.iconst 4, 1) := by decide +kernel
theorem dX5_put_337 : decode cX5_put 337 = .ok (.iload 6, 2) := by decide +kernel
theorem dX5_put_339 : decode cX5_put 339 = .ok (.imul, 1) := by decide +kernel
theorem dX5_put_340 : decode cX5_put 340 = .ok (.iload 7, 2) := by decide +kernel
theorem dX5_put_342 : decode cX5_put 342 = .ok (.bipush 8, 2) := by decide +kernel
theorem dX5_put_344 : decode cX5_put 344 = .ok (.idiv, 1) := by decide +kernel
theorem dX5_put_345 : decode cX5_put 345 = .ok (.iadd, 1) := by decide +kernel
theorem dX5_put_346 : decode cX5_put 346 = .ok (.dup2, 1) := by decide +kernel
theorem dX5_put_347 : decode cX5_put 347 = .ok (.laload, 1) := by decide +kernel
theorem dX5_put_348 : decode cX5_put 348 = .ok (.aload_n 0, 1) := by decide +kernel
theorem dX5_put_349 : decode cX5_put 349 = .ok (.getfield 53, 3) := by decide +kernel
theorem dX5_put_352 : decode cX5_put 352 = .ok (.iload_n 1, 1) := by decide +kernel
theorem dX5_put_353 : decode cX5_put 353 = .ok (.iload 7, 2) := by decide +kernel
theorem dX5_put_355 : decode cX5_put 355 = .ok (.iadd, 1) := by decide +kernel
theorem dX5_put_356 : decode cX5_put 356 = .ok (.baload, 1) := by decide +kernel
theorem dX5_put_357 : decode cX5_put 357 = .ok (.i2l, 1) := by decide +kernel
theorem dX5_put_358 : decode cX5_put 358 = .ok (.ldc2_w 194, 3) := by decide +kernel
theorem dX5_put_361 : decode cX5_put 361 = .ok (.land, 1) := by decide +kernel
theorem dX5_put_362 : decode cX5_put 362 = .ok (.bipush 8, 2) := by decide +kernel
theorem dX5_put_364 : decode cX5_put 364 = .ok (.iload 7, 2) := by decide +kernel
theorem dX5_put_366 : decode cX5_put 366 = .ok (.bipush 8, 2) := by decide +kernel
theorem dX5_put_368 : decode cX5_put 368 = .ok (.irem, 1) := by decide +kernel
theorem dX5_put_369 : decode cX5_put 369 = .ok (.imul, 1) := by decide +kernel
theorem dX5_put_370 : decode cX5_put 370 = .ok (.lshl, 1) := by decide +kernel
theorem dX5_put_371 : decode cX5_put 371 = .ok (.lor, 1) := by decide +kernel
theorem dX5_put_372 : decode cX5_put 372 = .ok (.lastore, 1) := by decide +kernel
theorem dX5_put_373 : decode cX5_put 373 = .ok (.iinc 7 1, 3) := by decide +kernel
theorem dX5_put_376 : decode cX5_put 376 = .ok (.goto (-52), 3) := by decide +kernel
theorem dX5_put_379 : decode cX5_put 379 = .ok (.aload_n 0, 1) := by decide +kernel
theorem dX5_put_380 : decode cX5_put 380 = .ok (.iload 4, 2) := by decide +kernel
theorem dX5_put_382 : decode cX5_put 382 = .ok (.invokevirtual 196, 3) := by decide +kernel
theorem dX5_put_385 : decode cX5_put 385 = .ok (.ireturn, 1) := by decide +kernel
theorem dX5_buddy_0 : decode cX5_buddy 0 = .ok (.aload_n 0, 1) := by decide +kernel
theorem dX5_buddy_1 : decode cX5_buddy 1 = .ok (.getfield 22, 3) := by decide +kernel
theorem dX5_buddy_4 : decode cX5_buddy 4 = .ok (.iload_n 1, 1) := by decide +kernel
theorem dX5_buddy_5 : decode cX5_buddy 5 = .ok (.iaload, 1) := by decide +kernel
theorem dX5_buddy_6 : decode cX5_buddy 6 = .ok (.istore_n 2, 1) := by decide +kernel
theorem dX5_buddy_7 : decode cX5_buddy 7 = .ok (.aload_n 0, 1) := by decide +kernel
theorem dX5_buddy_8 : decode cX5_buddy 8 = .ok (.getfield 32, 3) := by decide +kernel
theorem dX5_buddy_11 : decode cX5_buddy 11 = .ok (.iload_n 2, 1) := by decide +kernel
theorem dX5_buddy_12 : decode cX5_buddy 12 = .ok (.iaload, 1) := by decide +kernel
theorem dX5_buddy_13 : decode cX5_buddy 13 = .ok (.istore_n 3, 1) := by decide +kernel
theorem dX5_buddy_14 : decode cX5_buddy 14 = .ok (.iload_n 3, 1) := by decide +kernel
theorem dX5_buddy_15 : decode cX5_buddy 15 = .ok (.ifCond .ne 5, 3) := by decide +kernel
theorem dX5_buddy_18 : decode cX5_buddy 18 = .ok (.iconst (-1), 1) := by decide +kernel
theorem dX5_buddy_19 : decode cX5_buddy 19 = .ok (.ireturn, 1) := by decide +kernel
theorem dX5_buddy_20 : decode cX5_buddy 20 = .ok (.aload_n 0, 1) := by decide +kernel
theorem dX5_buddy_21 : decode cX5_buddy 21 = .ok (.getfield 22, 3) := by decide +kernel
theorem dX5_buddy_24 : decode cX5_buddy 24 = .ok (.iload_n 1, 1) := by decide +kernel
theorem dX5_buddy_25 : decode cX5_buddy 25 = .ok (.iconst 1, 1) := by decide +kernel
theorem dX5_buddy_26 : decode cX5_buddy 26 = .ok (.aload_n 0, 1) := by decide +kernel
theorem dX5_buddy_27 : decode cX5_buddy 27 = .ok (.getfield 95, 3) := by decide +kernel
theorem dX5_buddy_30 : decode cX5_buddy 30 = .ok (.iload_n 3, 1) := by decide +kernel
theorem dX5_buddy_31 : decode cX5_buddy 31 = .ok (.isub, 1) := by decide +kernel
theorem dX5_buddy_32 : decode cX5_buddy 32 = .ok (.ishl, 1) := by decide +kernel
theorem dX5_buddy_33 : decode cX5_buddy 33 = .ok (.ixor, 1) := by decide +kernel
theorem dX5_buddy_34 : decode cX5_buddy 34 = .ok (.iaload, 1) := by decide +kernel
theorem dX5_buddy_35 : decode cX5_buddy 35 = .ok (.istore 4, 2) := by decide +kernel
theorem dX5_buddy_37 : decode cX5_buddy 37 = .ok (.aload_n 0, 1) := by decide +kernel
theorem dX5_buddy_38 : decode cX5_buddy 38 = .ok (.getfield 32, 3) := by decide +kernel
theorem dX5_buddy_41 : decode cX5_buddy 41 = .ok (.iload 4, 2) := by decide +kernel
theorem dX5_buddy_43 : decode cX5_buddy 43 = .ok (.iaload, 1) := by decide +kernel
theorem dX5_buddy_44 : decode cX5_buddy 44 = .ok (.iload_n 3, 1) := by decide +kernel
theorem dX5_buddy_45 : decode cX5_buddy 45 = .ok (.if_icmp .ne 8, 3) := by decide +kernel
theorem dX5_buddy_48 : decode cX5_buddy 48 = .ok (.iload 4, 2) := by decide +kernel
theorem dX5_buddy_50 : decode cX5_buddy 50 = .ok (.goto 4, 3) := by decide +kernel
theorem dX5_buddy_53 : decode cX5_buddy 53 = .ok (.iconst (-1), 1) := by decide +kernel
theorem dX5_buddy_54 : decode cX5_buddy 54 = .ok (.ireturn, 1) := by decide +kernel
theorem dX5_merges_0 : decode cX5_merges 0 = .ok (.aload_n 0, 1) := by decide +kernel
theorem dX5_merges_1 : decode cX5_merges 1 = .ok (.getfield 22, 3) := by decide +kernel
theorem dX5_merges_4 : decode cX5_merges 4 = .ok (.iload_n 1, 1) := by decide +kernel
theorem dX5_merges_5 : decode cX5_merges 5 = .ok (.iaload, 1) := by decide +kernel
theorem dX5_merges_6 : decode cX5_merges 6 = .ok (.istore_n 2, 1) := by decide +kernel
theorem dX5_merges_7 : decode cX5_merges 7 = .ok (.aload_n 0, 1) := by decide +kernel
theorem dX5_merges_8 : decode cX5_merges 8 = .ok (.iload_n 1, 1) := by decide +kernel
theorem dX5_merges_9 : decode cX5_merges 9 = .ok (.invokevirtual 199, 3) := by decide +kernel
theorem dX5_merges_12 : decode cX5_merges 12 = .ok (.istore_n 3, 1) := by decide +kernel
theorem dX5_merges_13 : decode cX5_merges 13 = .ok (.iload_n 3, 1) := by decide +kernel
theorem dX5_merges_14 : decode cX5_merges 14 = .ok (.iconst (-1), 1) := by decide +kernel
theorem dX5_merges_15 : decode cX5_merges 15 = .ok (.if_icmp .eq 19, 3) := by decide +kernel
theorem dX5_merges_18 : decode cX5_merges 18 = .ok (.aload_n 0, 1) := by decide +kernel
theorem dX5_merges_19 : decode cX5_merges 19 = .ok (.iload_n 2, 1) := by decide +kernel
theorem dX5_merges_20 : decode cX5_merges 20 = .ok (.invokevirtual 117, 3) := by decide +kernel
theorem dX5_merges_23 : decode cX5_merges 23 = .ok (.aload_n 0, 1) := by decide +kernel
theorem dX5_merges_24 : decode cX5_merges 24 = .ok (.iload_n 3, 1) := by decide +kernel
theorem dX5_merges_25 : decode cX5_merges 25 = .ok (.invokevirtual 117, 3) := by decide +kernel
theorem dX5_merges_28 : decode cX5_merges 28 = .ok (.iadd, 1) := by decide +kernel
theorem dX5_merges_29 : decode cX5_merges 29 = .ok (.bipush 126, 2) := by decide +kernel
theorem dX5_merges_31 : decode cX5_merges 31 = .ok (.if_icmp .le 5, 3) := by decide +kernel
theorem dX5_merges_34 : decode cX5_merges 34 = .ok (.iconst (-1), 1) := by decide +kernel
theorem dX5_merges_35 : decode cX5_merges 35 = .ok (.ireturn, 1) := by decide +kernel
theorem dX5_merges_36 : decode cX5_merges 36 = .ok (.aload_n 0, 1) := by decide +kernel
theorem dX5_merges_37 : decode cX5_merges 37 = .ok (.getfield 32, 3) := by decide +kernel
theorem dX5_merges_40 : decode cX5_merges 40 = .ok (.iload_n 2, 1) := by decide +kernel
theorem dX5_merges_41 : decode cX5_merges 41 = .ok (.iaload, 1) := by decide +kernel
theorem dX5_merges_42 : decode cX5_merges 42 = .ok (.istore 4, 2) := by decide +kernel
theorem dX5_merges_44 : decode cX5_merges 44 = .ok (.iload_n 1, 1) := by decide +kernel
theorem dX5_merges_45 : decode cX5_merges 45 = .ok (.aload_n 0, 1) := by decide +kernel
theorem dX5_merges_46 : decode cX5_merges 46 = .ok (.getfield 95, 3) := by decide +kernel
theorem dX5_merges_49 : decode cX5_merges 49 = .ok (.iload 4, 2) := by decide +kernel
theorem dX5_merges_51 : decode cX5_merges 51 = .ok (.isub, 1) := by decide +kernel
theorem dX5_merges_52 : decode cX5_merges 52 = .ok (.ishr, 1) := by decide +kernel
theorem dX5_merges_53 : decode cX5_merges 53 = .ok (.iconst 1, 1) := by decide +kernel
theorem dX5_merges_54 : decode cX5_merges 54 = .ok (.iand, 1) := by decide +kernel
theorem dX5_merges_55 : decode cX5_merges 55 = .ok (.iconst 1, 1) := by decide +kernel
theorem dX5_merges_56 : decode cX5_merges 56 = .ok (.if_icmp .ne 7, 3) := by decide +kernel
theorem dX5_merges_59 : decode cX5_merges 59 = .ok (.iconst 1, 1) := by decide +kernel
theorem dX5_merges_60 : decode cX5_merges 60 = .ok (.goto 4, 3) := by decide +kernel
theorem dX5_merges_63 : decode cX5_merges 63 = .ok (.iconst 0, 1) := by decide +kernel
theorem dX5_merges_64 : decode cX5_merges 64 = .ok (.istore 5, 2) := by decide +kernel
theorem dX5_merges_66 : decode cX5_merges 66 = .ok (.iload 5, 2) := by decide +kernel
theorem dX5_merges_68 : decode cX5_merges 68 = .ok (.ifCond .eq 7, 3) := by decide +kernel
theorem dX5_merges_71 : decode cX5_merges 71 = .ok (.iload_n 3, 1) := by decide +kernel
theorem dX5_merges_72 : decode cX5_merges 72 = .ok (.goto 4, 3) := by decide +kernel
theorem dX5_merges_75 : decode cX5_merges 75 = .ok (.iload_n 2, 1) := by decide +kernel
theorem dX5_merges_76 : decode cX5_merges 76 = .ok (.istore 6, 2) := by decide +kernel
theorem dX5_merges_78 : decode cX5_merges 78 = .ok (.iload 5, 2) := by decide +kernel
theorem dX5_merges_80 : decode cX5_merges 80 = .ok (.ifCond .eq 7, 3) := by decide +kernel
theorem dX5_merges_83 : decode cX5_merges 83 = .ok (.iload_n 2, 1) := by decide +kernel
theorem dX5_merges_84 : decode cX5_merges 84 = .ok (.goto 4, 3) := by decide +kernel
theorem dX5_merges_87 : decode cX5_merges 87 = .ok (.iload_n 3, 1) := by decide +kernel
theorem dX5_merges_88 : decode cX5_merges 88 = .ok (.istore 7, 2) := by decide +kernel
theorem dX5_merges_90 : decode cX5_merges 90 = .ok (.iconst 0, 1) := by decide +kernel
theorem dX5_merges_91 : decode cX5_merges 91 = .ok (.istore 8, 2) := by decide +kernel
theorem dX5_merges_93 : decode cX5_merges 93 = .ok (.iload 8, 2) := by decide +kernel
theorem dX5_merges_95 : decode cX5_merges 95 = .ok (.iconst 1, 1) := by decide +kernel
theorem dX5_merges_96 : decode cX5_merges 96 = .ok (.aload_n 0, 1) := by decide +kernel
theorem dX5_merges_97 : decode cX5_merges 97 = .ok (.getfield 95, 3) := by decide +kernel
theorem dX5_merges_100 : decode cX5_merges 100 = .ok (.ishl, 1) := by decide +kernel
theorem dX5_merges_101 : decode cX5_merges 101 = .ok (.if_icmp .ge 40, 3) := by decide +kernel
theorem dX5_merges_104 : decode cX5_merges 104 = .ok (.aload_n 0, 1) := by decide +kernel
theorem dX5_merges_105 : decode cX5_merges 105 = .ok (.getfield 25, 3) := by decide +kernel
theorem dX5_merges_108 : decode cX5_merges 108 = .ok (.iload 8, 2) := by decide +kernel
theorem dX5_merges_110 : decode cX5_merges 110 = .ok (.aload_n 0, 1) := by decide +kernel
theorem dX5_merges_111 : decode cX5_merges 111 = .ok (.getfield 22, 3) := by decide +kernel
theorem dX5_merges_114 : decode cX5_merges 114 = .ok (.iload 8, 2) := by decide +kernel
theorem dX5_merges_116 : decode cX5_merges 116 = .ok (.iaload, 1) := by decide +kernel
theorem dX5_merges_117 : decode cX5_merges 117 = .ok (.iload 7, 2) := by decide +kernel
theorem dX5_merges_119 : decode cX5_merges 119 = .ok (.if_icmp .ne 8, 3) := by decide +kernel
theorem dX5_merges_122 : decode cX5_merges 122 = .ok (.iload 6, 2) := by decide +kernel
theorem dX5_merges_124 : decode cX5_merges 124 = .ok (.goto 10, 3) := by decide +kernel
theorem dX5_merges_127 : decode cX5_merges 127 = .ok (.aload_n 0, 1) := by decide +kernel
theorem dX5_merges_128 : decode cX5_merges 128 = .ok (.getfield 22, 3) := by decide +kernel
theorem dX5_merges_131 : decode cX5_merges 131 = .ok (.iload 8, 2) := by decide +kernel
theorem dX5_merges_133 : decode cX5_merges 133 = .ok (.iaload, 1) := by decide +kernel
theorem dX5_merges_134 : decode cX5_merges 134 = .ok (.iastore, 1) := by decide +kernel
theorem dX5_merges_135 : decode cX5_merges 135 = .ok (.iinc 8 1, 3) := by decide +kernel
theorem dX5_merges_138 : decode cX5_merges 138 = .ok (.goto (-45), 3) := by decide +kernel
theorem dX5_merges_141 : decode cX5_merges 141 = .ok (.aload_n 0, 1) := by decide +kernel
theorem dX5_merges_142 : decode cX5_merges 142 = .ok (.getfield 62, 3) := by decide +kernel
theorem dX5_merges_145 : decode cX5_merges 145 = .ok (.iconst 0, 1) := by decide +kernel
theorem dX5_merges_146 : decode cX5_merges 146 = .ok (.iload 6, 2) := by decide +kernel
theorem dX5_merges_148 : decode cX5_merges 148 = .ok (.iastore, 1) := by decide +kernel
theorem dX5_merges_149 : decode cX5_merges 149 = .ok (.aload_n 0, 1) := by decide +kernel
theorem dX5_merges_150 : decode cX5_merges 150 = .ok (.aload_n 0, 1) := by decide +kernel
theorem dX5_merges_151 : decode cX5_merges 151 = .ok (.iconst 1, 1) := by decide +kernel
theorem dX5_merges_152 : decode cX5_merges 152 = .ok (.invokevirtual 160, 3) := by decide +kernel
theorem dX5_merges_155 : decode cX5_merges 155 = .ok (.putfield 124, 3) := by decide +kernel
theorem dX5_merges_158 : decode cX5_merges 158 = .ok (.aload_n 0, 1) := by decide +kernel
theorem dX5_merges_159 : decode cX5_merges 159 = .ok (.getfield 124, 3) := by decide +kernel
theorem dX5_merges_162 : decode cX5_merges 162 = .ok (.aload_n 0, 1) := by decide +kernel
theorem dX5_merges_163 : decode cX5_merges 163 = .ok (.getfield 72, 3) := by decide +kernel
theorem dX5_merges_166 : decode cX5_merges 166 = .ok (.if_icmp .le 5, 3) := by decide +kernel
theorem dX5_merges_169 : decode cX5_merges 169 = .ok (.iconst (-1), 1) := by decide +kernel
theorem dX5_merges_170 : decode cX5_merges 170 = .ok (.ireturn, 1) := by decide +kernel
theorem dX5_merges_171 : decode cX5_merges 171 = .ok (.iconst 0, 1) := by decide +kernel
theorem dX5_merges_172 : decode cX5_merges 172 = .ok (.istore 8, 2) := by decide +kernel
theorem dX5_merges_174 : decode cX5_merges 174 = .ok (.iload 8, 2) := by decide +kernel
theorem dX5_merges_176 : decode cX5_merges 176 = .ok (.iconst 1, 1) := by decide +kernel
theorem dX5_merges_177 : decode cX5_merges 177 = .ok (.aload_n 0, 1) := by decide +kernel
theorem dX5_merges_178 : decode cX5_merges 178 = .ok (.getfield 95, 3) := by decide +kernel
theorem dX5_merges_181 : decode cX5_merges 181 = .ok (.ishl, 1) := by decide +kernel
theorem dX5_merges_182 : decode cX5_merges 182 = .ok (.if_icmp .ge 23, 3) := by decide +kernel
theorem dX5_merges_185 : decode cX5_merges 185 = .ok (.aload_n 0, 1) := by decide +kernel
theorem dX5_merges_186 : decode cX5_merges 186 = .ok (.getfield 22, 3) := by decide +kernel
theorem dX5_merges_189 : decode cX5_merges 189 = .ok (.iload 8, 2) := by decide +kernel
theorem dX5_merges_191 : decode cX5_merges 191 = .ok (.aload_n 0, 1) := by decide +kernel
theorem dX5_merges_192 : decode cX5_merges 192 = .ok (.getfield 25, 3) := by decide +kernel
theorem dX5_merges_195 : decode cX5_merges 195 = .ok (.iload 8, 2) := by decide +kernel
theorem dX5_merges_197 : decode cX5_merges 197 = .ok (.iaload, 1) := by decide +kernel
theorem dX5_merges_198 : decode cX5_merges 198 = .ok (.iastore, 1) := by decide +kernel
theorem dX5_merges_199 : decode cX5_merges 199 = .ok (.iinc 8 1, 3) := by decide +kernel
theorem dX5_merges_202 : decode cX5_merges 202 = .ok (.goto (-28), 3) := by decide +kernel
theorem dX5_merges_205 : decode cX5_merges 205 = .ok (.iconst 0, 1) := by decide +kernel
theorem dX5_merges_206 : decode cX5_merges 206 = .ok (.istore 8, 2) := by decide +kernel
theorem dX5_merges_208 : decode cX5_merges 208 = .ok (.iload 8, 2) := by decide +kernel
theorem dX5_merges_210 : decode cX5_merges 210 = .ok (.aload_n 0, 1) := by decide +kernel
theorem dX5_merges_211 : decode cX5_merges 211 = .ok (.getfield 35, 3) := by decide +kernel
theorem dX5_merges_214 : decode cX5_merges 214 = .ok (.iload 7, 2) := by decide +kernel
theorem dX5_merges_216 : decode cX5_merges 216 = .ok (.iaload, 1) := by decide +kernel
theorem dX5_merges_217 : decode cX5_merges 217 = .ok (.if_icmp .ge 45, 3) := by decide +kernel
theorem dX5_merges_220 : decode cX5_merges 220 = .ok (.aload_n 0, 1) := by decide +kernel
theorem dX5_merges_221 : decode cX5_merges 221 = .ok (.bipush 90, 2) := by decide +kernel
theorem dX5_merges_223 : decode cX5_merges 223 = .ok (.iload 7, 2) := by decide +kernel
theorem dX5_merges_225 : decode cX5_merges 225 = .ok (.imul, 1) := by decide +kernel
theorem dX5_merges_226 : decode cX5_merges 226 = .ok (.iload 8, 2) := by decide +kernel
theorem dX5_merges_228 : decode cX5_merges 228 = .ok (.iadd, 1) := by decide +kernel
theorem dX5_merges_229 : decode cX5_merges 229 = .ok (.bipush 90, 2) := by decide +kernel
theorem dX5_merges_231 : decode cX5_merges 231 = .ok (.iload 6, 2) := by decide +kernel
theorem dX5_merges_233 : decode cX5_merges 233 = .ok (.imul, 1) := by decide +kernel
theorem dX5_merges_234 : decode cX5_merges 234 = .ok (.aload_n 0, 1) := by decide +kernel
theorem dX5_merges_235 : decode cX5_merges 235 = .ok (.getfield 35, 3) := by decide +kernel
theorem dX5_merges_238 : decode cX5_merges 238 = .ok (.iload 6, 2) := by decide +kernel
theorem dX5_merges_240 : decode cX5_merges 240 = .ok (.iaload, 1) := by decide +kernel
theorem dX5_merges_241 : decode cX5_merges 241 = .ok (.iadd, 1) := by decide +kernel
theorem dX5_merges_242 : decode cX5_merges 242 = .ok (.invokevirtual 150, 3) := by decide +kernel
theorem dX5_merges_245 : decode cX5_merges 245 = .ok (.aload_n 0, 1) := by decide +kernel
theorem dX5_merges_246 : decode cX5_merges 246 = .ok (.getfield 35, 3) := by decide +kernel
theorem dX5_merges_249 : decode cX5_merges 249 = .ok (.iload 6, 2) := by decide +kernel
theorem dX5_merges_251 : decode cX5_merges 251 = .ok (.dup2, 1) := by decide +kernel
theorem dX5_merges_252 : decode cX5_merges 252 = .ok (.iaload, 1) := by decide +kernel
theorem dX5_merges_253 : decode cX5_merges 253 = .ok (.iconst 1, 1) := by decide +kernel
theorem dX5_merges_254 : decode cX5_merges 254 = .ok (.iadd, 1) := by decide +kernel
theorem dX5_merges_255 : decode cX5_merges 255 = .ok (.iastore, 1) := by decide +kernel
theorem dX5_merges_256 : decode cX5_merges 256 = .ok (.iinc 8 1, 3) := by decide +kernel
theorem dX5_merges_259 : decode cX5_merges 259 = .ok (.goto (-51), 3) := by decide +kernel
theorem dX5_merges_262 : decode cX5_merges 262 = .ok (.aload_n 0, 1) := by decide +kernel
theorem dX5_merges_263 : decode cX5_merges 263 = .ok (.getfield 28, 3) := by decide +kernel
theorem dX5_merges_266 : decode cX5_merges 266 = .ok (.iload 7, 2) := by decide +kernel
theorem dX5_merges_268 : decode cX5_merges 268 = .ok (.iconst 0, 1) := by decide +kernel
theorem dX5_merges_269 : decode cX5_merges 269 = .ok (.bastore, 1) := by decide +kernel
theorem dX5_merges_270 : decode cX5_merges 270 = .ok (.aload_n 0, 1) := by decide +kernel
theorem dX5_merges_271 : decode cX5_merges 271 = .ok (.getfield 32, 3) := by decide +kernel
theorem dX5_merges_274 : decode cX5_merges 274 = .ok (.iload 6, 2) := by decide +kernel
theorem dX5_merges_276 : decode cX5_merges 276 = .ok (.iload 4, 2) := by decide +kernel
theorem dX5_merges_278 : decode cX5_merges 278 = .ok (.iconst 1, 1) := by decide +kernel
theorem dX5_merges_279 : decode cX5_merges 279 = .ok (.isub, 1) := by decide +kernel
theorem dX5_merges_280 : decode cX5_merges 280 = .ok (.iastore, 1) := by decide +kernel
theorem dX5_merges_281 : decode cX5_merges 281 = .ok (.aload_n 0, 1) := by decide +kernel
theorem dX5_merges_282 : decode cX5_merges 282 = .ok (.invokevirtual 156, 3) := by decide +kernel
theorem dX5_merges_285 : decode cX5_merges 285 = .ok (.ireturn, 1) := by decide +kernel
theorem dX5_halves_0 : decode cX5_halves 0 = .ok (.aload_n 0, 1) := by decide +kernel
theorem dX5_halves_1 : decode cX5_halves 1 = .ok (.getfield 95, 3) := by decide +kernel
theorem dX5_halves_4 : decode cX5_halves 4 = .ok (.ifCond .ne 5, 3) := by decide +kernel
theorem dX5_halves_7 : decode cX5_halves 7 = .ok (.iconst (-1), 1) := by decide +kernel
theorem dX5_halves_8 : decode cX5_halves 8 = .ok (.ireturn, 1) := by decide +kernel
theorem dX5_halves_9 : decode cX5_halves 9 = .ok (.iconst 0, 1) := by decide +kernel
theorem dX5_halves_10 : decode cX5_halves 10 = .ok (.istore_n 1, 1) := by decide +kernel
theorem dX5_halves_11 : decode cX5_halves 11 = .ok (.iload_n 1, 1) := by decide +kernel
theorem dX5_halves_12 : decode cX5_halves 12 = .ok (.aload_n 0, 1) := by decide +kernel
theorem dX5_halves_13 : decode cX5_halves 13 = .ok (.getfield 69, 3) := by decide +kernel
theorem dX5_halves_16 : decode cX5_halves 16 = .ok (.if_icmp .ge 33, 3) := by decide +kernel
theorem dX5_halves_19 : decode cX5_halves 19 = .ok (.aload_n 0, 1) := by decide +kernel
theorem dX5_halves_20 : decode cX5_halves 20 = .ok (.getfield 28, 3) := by decide +kernel
theorem dX5_halves_23 : decode cX5_halves 23 = .ok (.iload_n 1, 1) := by decide +kernel
theorem dX5_halves_24 : decode cX5_halves 24 = .ok (.baload, 1) := by decide +kernel
theorem dX5_halves_25 : decode cX5_halves 25 = .ok (.ifCond .eq 18, 3) := by decide +kernel
theorem dX5_halves_28 : decode cX5_halves 28 = .ok (.aload_n 0, 1) := by decide +kernel
theorem dX5_halves_29 : decode cX5_halves 29 = .ok (.getfield 32, 3) := by decide +kernel
theorem dX5_halves_32 : decode cX5_halves 32 = .ok (.iload_n 1, 1) := by decide +kernel
theorem dX5_halves_33 : decode cX5_halves 33 = .ok (.iaload, 1) := by decide +kernel
theorem dX5_halves_34 : decode cX5_halves 34 = .ok (.aload_n 0, 1) := by decide +kernel
theorem dX5_halves_35 : decode cX5_halves 35 = .ok (.getfield 95, 3) := by decide +kernel
theorem dX5_halves_38 : decode cX5_halves 38 = .ok (.if_icmp .ne 5, 3) := by decide +kernel
theorem dX5_halves_41 : decode cX5_halves 41 = .ok (.iconst (-1), 1) := by decide +kernel
theorem dX5_halves_42 : decode cX5_halves 42 = .ok (.ireturn, 1) := by decide +kernel
theorem dX5_halves_43 : decode cX5_halves 43 = .ok (.iinc 1 1, 3) := by decide +kernel
theorem dX5_halves_46 : decode cX5_halves 46 = .ok (.goto (-35), 3) := by decide +kernel
theorem dX5_halves_49 : decode cX5_halves 49 = .ok (.iconst 1, 1) := by decide +kernel
theorem dX5_halves_50 : decode cX5_halves 50 = .ok (.aload_n 0, 1) := by decide +kernel
theorem dX5_halves_51 : decode cX5_halves 51 = .ok (.getfield 95, 3) := by decide +kernel
theorem dX5_halves_54 : decode cX5_halves 54 = .ok (.iconst 1, 1) := by decide +kernel
theorem dX5_halves_55 : decode cX5_halves 55 = .ok (.isub, 1) := by decide +kernel
theorem dX5_halves_56 : decode cX5_halves 56 = .ok (.ishl, 1) := by decide +kernel
theorem dX5_halves_57 : decode cX5_halves 57 = .ok (.sipush 255, 3) := by decide +kernel
theorem dX5_halves_60 : decode cX5_halves 60 = .ok (.iadd, 1) := by decide +kernel
theorem dX5_halves_61 : decode cX5_halves 61 = .ok (.sipush 256, 3) := by decide +kernel
theorem dX5_halves_64 : decode cX5_halves 64 = .ok (.idiv, 1) := by decide +kernel
theorem dX5_halves_65 : decode cX5_halves 65 = .ok (.istore_n 1, 1) := by decide +kernel
theorem dX5_halves_66 : decode cX5_halves 66 = .ok (.iload_n 1, 1) := by decide +kernel
theorem dX5_halves_67 : decode cX5_halves 67 = .ok (.iconst 1, 1) := by decide +kernel
theorem dX5_halves_68 : decode cX5_halves 68 = .ok (.iadd, 1) := by decide +kernel
theorem dX5_halves_69 : decode cX5_halves 69 = .ok (.aload_n 0, 1) := by decide +kernel
theorem dX5_halves_70 : decode cX5_halves 70 = .ok (.getfield 72, 3) := by decide +kernel
theorem dX5_halves_73 : decode cX5_halves 73 = .ok (.if_icmp .le 5, 3) := by decide +kernel
theorem dX5_halves_76 : decode cX5_halves 76 = .ok (.iconst (-1), 1) := by decide +kernel
theorem dX5_halves_77 : decode cX5_halves 77 = .ok (.ireturn, 1) := by decide +kernel
theorem dX5_halves_78 : decode cX5_halves 78 = .ok (.aload_n 0, 1) := by decide +kernel
theorem dX5_halves_79 : decode cX5_halves 79 = .ok (.dup, 1) := by decide +kernel
theorem dX5_halves_80 : decode cX5_halves 80 = .ok (.getfield 95, 3) := by decide +kernel
theorem dX5_halves_83 : decode cX5_halves 83 = .ok (.iconst 1, 1) := by decide +kernel
theorem dX5_halves_84 : decode cX5_halves 84 = .ok (.isub, 1) := by decide +kernel
theorem dX5_halves_85 : decode cX5_halves 85 = .ok (.putfield 95, 3) := by decide +kernel
theorem dX5_halves_88 : decode cX5_halves 88 = .ok (.iconst 0, 1) := by decide +kernel
theorem dX5_halves_89 : decode cX5_halves 89 = .ok (.istore_n 2, 1) := by decide +kernel
theorem dX5_halves_90 : decode cX5_halves 90 = .ok (.iload_n 2, 1) := by decide +kernel
theorem dX5_halves_91 : decode cX5_halves 91 = .ok (.iconst 1, 1) := by decide +kernel
theorem dX5_halves_92 : decode cX5_halves 92 = .ok (.aload_n 0, 1) := by decide +kernel
theorem dX5_halves_93 : decode cX5_halves 93 = .ok (.getfield 95, 3) := by decide +kernel
theorem dX5_halves_96 : decode cX5_halves 96 = .ok (.ishl, 1) := by decide +kernel
theorem dX5_halves_97 : decode cX5_halves 97 = .ok (.if_icmp .ge 23, 3) := by decide +kernel
theorem dX5_halves_100 : decode cX5_halves 100 = .ok (.aload_n 0, 1) := by decide +kernel
theorem dX5_halves_101 : decode cX5_halves 101 = .ok (.getfield 22, 3) := by decide +kernel
theorem dX5_halves_104 : decode cX5_halves 104 = .ok (.iload_n 2, 1) := by decide +kernel
theorem dX5_halves_105 : decode cX5_halves 105 = .ok (.aload_n 0, 1) := by decide +kernel
theorem dX5_halves_106 : decode cX5_halves 106 = .ok (.getfield 22, 3) := by decide +kernel
theorem dX5_halves_109 : decode cX5_halves 109 = .ok (.iconst 2, 1) := by decide +kernel
theorem dX5_halves_110 : decode cX5_halves 110 = .ok (.iload_n 2, 1) := by decide +kernel
theorem dX5_halves_111 : decode cX5_halves 111 = .ok (.imul, 1) := by decide +kernel
theorem dX5_halves_112 : decode cX5_halves 112 = .ok (.iaload, 1) := by decide +kernel
theorem dX5_halves_113 : decode cX5_halves 113 = .ok (.iastore, 1) := by decide +kernel
theorem dX5_halves_114 : decode cX5_halves 114 = .ok (.iinc 2 1, 3) := by decide +kernel
theorem dX5_halves_117 : decode cX5_halves 117 = .ok (.goto (-27), 3) := by decide +kernel
theorem dX5_halves_120 : decode cX5_halves 120 = .ok (.aload_n 0, 1) := by decide +kernel
theorem dX5_halves_121 : decode cX5_halves 121 = .ok (.iload_n 1, 1) := by decide +kernel
theorem dX5_halves_122 : decode cX5_halves 122 = .ok (.putfield 98, 3) := by decide +kernel
theorem dX5_halves_125 : decode cX5_halves 125 = .ok (.iconst 0, 1) := by decide +kernel
theorem dX5_halves_126 : decode cX5_halves 126 = .ok (.istore_n 2, 1) := by decide +kernel
theorem dX5_halves_127 : decode cX5_halves 127 = .ok (.iload_n 2, 1) := by decide +kernel
theorem dX5_halves_128 : decode cX5_halves 128 = .ok (.iload_n 1, 1) := by decide +kernel
theorem dX5_halves_129 : decode cX5_halves 129 = .ok (.if_icmp .ge 21, 3) := by decide +kernel
theorem dX5_halves_132 : decode cX5_halves 132 = .ok (.aload_n 0, 1) := by decide +kernel
theorem dX5_halves_133 : decode cX5_halves 133 = .ok (.getfield 62, 3) := by decide +kernel
theorem dX5_halves_136 : decode cX5_halves 136 = .ok (.iload_n 2, 1) := by decide +kernel
theorem dX5_halves_137 : decode cX5_halves 137 = .ok (.aload_n 0, 1) := by decide +kernel
theorem dX5_halves_138 : decode cX5_halves 138 = .ok (.getfield 18, 3) := by decide +kernel
theorem dX5_halves_141 : decode cX5_halves 141 = .ok (.iload_n 2, 1) := by decide +kernel
theorem dX5_halves_142 : decode cX5_halves 142 = .ok (.iaload, 1) := by decide +kernel
theorem dX5_halves_143 : decode cX5_halves 143 = .ok (.iastore, 1) := by decide +kernel
theorem dX5_halves_144 : decode cX5_halves 144 = .ok (.iinc 2 1, 3) := by decide +kernel
theorem dX5_halves_147 : decode cX5_halves 147 = .ok (.goto (-20), 3) := by decide +kernel
theorem dX5_halves_150 : decode cX5_halves 150 = .ok (.aload_n 0, 1) := by decide +kernel
theorem dX5_halves_151 : decode cX5_halves 151 = .ok (.getfield 62, 3) := by decide +kernel
theorem dX5_halves_154 : decode cX5_halves 154 = .ok (.iload_n 1, 1) := by decide +kernel
theorem dX5_halves_155 : decode cX5_halves 155 = .ok (.iconst 0, 1) := by decide +kernel
theorem dX5_halves_156 : decode cX5_halves 156 = .ok (.iastore, 1) := by decide +kernel
theorem dX5_halves_157 : decode cX5_halves 157 = .ok (.aload_n 0, 1) := by decide +kernel
theorem dX5_halves_158 : decode cX5_halves 158 = .ok (.iload_n 1, 1) := by decide +kernel
theorem dX5_halves_159 : decode cX5_halves 159 = .ok (.iconst 1, 1) := by decide +kernel
theorem dX5_halves_160 : decode cX5_halves 160 = .ok (.iadd, 1) := by decide +kernel
theorem dX5_halves_161 : decode cX5_halves 161 = .ok (.putfield 124, 3) := by decide +kernel
theorem dX5_halves_164 : decode cX5_halves 164 = .ok (.aload_n 0, 1) := by decide +kernel
theorem dX5_halves_165 : decode cX5_halves 165 = .ok (.invokevirtual 156, 3) := by decide +kernel
theorem dX5_halves_168 : decode cX5_halves 168 = .ok (.ireturn, 1) := by decide +kernel
theorem dX5_remove_0 : decode cX5_remove 0 = .ok (.aload_n 0, 1) := by decide +kernel
theorem dX5_remove_1 : decode cX5_remove 1 = .ok (.iconst 0, 1) := by decide +kernel
theorem dX5_remove_2 : decode cX5_remove 2 = .ok (.putfield 1, 3) := by decide +kernel
theorem dX5_remove_5 : decode cX5_remove 5 = .ok (.aload_n 0, 1) := by decide +kernel
theorem dX5_remove_6 : decode cX5_remove 6 = .ok (.getfield 172, 3) := by decide +kernel
theorem dX5_remove_9 : decode cX5_remove 9 = .ok (.istore_n 1, 1) := by decide +kernel
theorem dX5_remove_10 : decode cX5_remove 10 = .ok (.aload_n 0, 1) := by decide +kernel
theorem dX5_remove_11 : decode cX5_remove 11 = .ok (.iconst 0, 1) := by decide +kernel
theorem dX5_remove_12 : decode cX5_remove 12 = .ok (.putfield 172, 3) := by decide +kernel
theorem dX5_remove_15 : decode cX5_remove 15 = .ok (.aload_n 0, 1) := by decide +kernel
theorem dX5_remove_16 : decode cX5_remove 16 = .ok (.getfield 81, 3) := by decide +kernel
theorem dX5_remove_19 : decode cX5_remove 19 = .ok (.ifCond .eq 9, 3) := by decide +kernel
theorem dX5_remove_22 : decode cX5_remove 22 = .ok (.aload_n 0, 1) := by decide +kernel
theorem dX5_remove_23 : decode cX5_remove 23 = .ok (.iconst 1, 1) := by decide +kernel
theorem dX5_remove_24 : decode cX5_remove 24 = .ok (.invokevirtual 175, 3) := by decide +kernel
theorem dX5_remove_27 : decode cX5_remove 27 = .ok (.ireturn, 1) := by decide +kernel
theorem dX5_remove_28 : decode cX5_remove 28 = .ok (.iload_n 1, 1) := by decide +kernel
theorem dX5_remove_29 : decode cX5_remove 29 = .ok (.iconst 1, 1) := by decide +kernel
theorem dX5_remove_30 : decode cX5_remove 30 = .ok (.if_icmp .lt 9, 3) := by decide +kernel
theorem dX5_remove_33 : decode cX5_remove 33 = .ok (.iload_n 1, 1) := by decide +kernel
theorem dX5_remove_34 : decode cX5_remove 34 = .ok (.bipush 16, 2) := by decide +kernel
theorem dX5_remove_36 : decode cX5_remove 36 = .ok (.if_icmp .le 9, 3) := by decide +kernel
theorem dX5_remove_39 : decode cX5_remove 39 = .ok (.aload_n 0, 1) := by decide +kernel
theorem dX5_remove_40 : decode cX5_remove 40 = .ok (.iconst 2, 1) := by decide +kernel
theorem dX5_remove_41 : decode cX5_remove 41 = .ok (.invokevirtual 175, 3) := by decide +kernel
theorem dX5_remove_44 : decode cX5_remove 44 = .ok (.ireturn, 1) := by decide +kernel
theorem dX5_remove_45 : decode cX5_remove 45 = .ok (.aload_n 0, 1) := by decide +kernel
theorem dX5_remove_46 : decode cX5_remove 46 = .ok (.iload_n 1, 1) := by decide +kernel
theorem dX5_remove_47 : decode cX5_remove 47 = .ok (.invokevirtual 178, 3) := by decide +kernel
theorem dX5_remove_50 : decode cX5_remove 50 = .ok (.istore_n 2, 1) := by decide +kernel
theorem dX5_remove_51 : decode cX5_remove 51 = .ok (.aload_n 0, 1) := by decide +kernel
theorem dX5_remove_52 : decode cX5_remove 52 = .ok (.iload_n 2, 1) := by decide +kernel
theorem dX5_remove_53 : decode cX5_remove 53 = .ok (.iload_n 1, 1) := by decide +kernel
theorem dX5_remove_54 : decode cX5_remove 54 = .ok (.invokevirtual 169, 3) := by decide +kernel
theorem dX5_remove_57 : decode cX5_remove 57 = .ok (.istore_n 3, 1) := by decide +kernel
theorem dX5_remove_58 : decode cX5_remove 58 = .ok (.iload_n 3, 1) := by decide +kernel
theorem dX5_remove_59 : decode cX5_remove 59 = .ok (.iconst (-1), 1) := by decide +kernel
theorem dX5_remove_60 : decode cX5_remove 60 = .ok (.if_icmp .ne 5, 3) := by decide +kernel
theorem dX5_remove_63 : decode cX5_remove 63 = .ok (.iconst (-1), 1) := by decide +kernel
theorem dX5_remove_64 : decode cX5_remove 64 = .ok (.ireturn, 1) := by decide +kernel
theorem dX5_remove_65 : decode cX5_remove 65 = .ok (.aload_n 0, 1) := by decide +kernel
theorem dX5_remove_66 : decode cX5_remove 66 = .ok (.iload_n 2, 1) := by decide +kernel
theorem dX5_remove_67 : decode cX5_remove 67 = .ok (.iload_n 3, 1) := by decide +kernel
theorem dX5_remove_68 : decode cX5_remove 68 = .ok (.invokevirtual 166, 3) := by decide +kernel
theorem dX5_remove_71 : decode cX5_remove 71 = .ok (.aload_n 0, 1) := by decide +kernel
theorem dX5_remove_72 : decode cX5_remove 72 = .ok (.iload_n 2, 1) := by decide +kernel
theorem dX5_remove_73 : decode cX5_remove 73 = .ok (.invokevirtual 196, 3) := by decide +kernel
theorem dX5_remove_76 : decode cX5_remove 76 = .ok (.istore 4, 2) := by decide +kernel
theorem dX5_remove_78 : decode cX5_remove 78 = .ok (.aload_n 0, 1) := by decide +kernel
theorem dX5_remove_79 : decode cX5_remove 79 = .ok (.iload_n 1, 1) := by decide +kernel
theorem dX5_remove_80 : decode cX5_remove 80 = .ok (.invokevirtual 140, 3) := by decide +kernel
theorem dX5_remove_83 : decode cX5_remove 83 = .ok (.istore 5, 2) := by decide +kernel
theorem dX5_remove_85 : decode cX5_remove 85 = .ok (.iload 4, 2) := by decide +kernel
theorem dX5_remove_87 : decode cX5_remove 87 = .ok (.ifCond .ne 21, 3) := by decide +kernel
theorem dX5_remove_90 : decode cX5_remove 90 = .ok (.aload_n 0, 1) := by decide +kernel
theorem dX5_remove_91 : decode cX5_remove 91 = .ok (.iload 5, 2) := by decide +kernel
theorem dX5_remove_93 : decode cX5_remove 93 = .ok (.aload_n 0, 1) := by decide +kernel
theorem dX5_remove_94 : decode cX5_remove 94 = .ok (.getfield 95, 3) := by decide +kernel
theorem dX5_remove_97 : decode cX5_remove 97 = .ok (.invokestatic 143, 3) := by decide +kernel
theorem dX5_remove_100 : decode cX5_remove 100 = .ok (.invokevirtual 202, 3) := by decide +kernel
theorem dX5_remove_103 : decode cX5_remove 103 = .ok (.istore 4, 2) := by decide +kernel
theorem dX5_remove_105 : decode cX5_remove 105 = .ok (.goto (-20), 3) := by decide +kernel
theorem dX5_remove_108 : decode cX5_remove 108 = .ok (.iload 4, 2) := by decide +kernel
theorem dX5_remove_110 : decode cX5_remove 110 = .ok (.iconst 4, 1) := by decide +kernel
theorem dX5_remove_111 : decode cX5_remove 111 = .ok (.if_icmp .ne 5, 3) := by decide +kernel
theorem dX5_remove_114 : decode cX5_remove 114 = .ok (.iconst 4, 1) := by decide +kernel
theorem dX5_remove_115 : decode cX5_remove 115 = .ok (.ireturn, 1) := by decide +kernel
theorem dX5_remove_116 : decode cX5_remove 116 = .ok (.iconst 0, 1) := by decide +kernel
theorem dX5_remove_117 : decode cX5_remove 117 = .ok (.istore 4, 2) := by decide +kernel
theorem dX5_remove_119 : decode cX5_remove 119 = .ok (.iload 4, 2) := by decide +kernel
theorem dX5_remove_121 : decode cX5_remove 121 = .ok (.ifCond .ne 12, 3) := by decide +kernel
theorem dX5_remove_124 : decode cX5_remove 124 = .ok (.aload_n 0, 1) := by decide +kernel
theorem dX5_remove_125 : decode cX5_remove 125 = .ok (.invokevirtual 205, 3) := by decide +kernel
theorem dX5_remove_128 : decode cX5_remove 128 = .ok (.istore 4, 2) := by decide +kernel
theorem dX5_remove_130 : decode cX5_remove 130 = .ok (.goto (-11), 3) := by decide +kernel
theorem dX5_remove_133 : decode cX5_remove 133 = .ok (.iload 4, 2) := by decide +kernel
theorem dX5_remove_135 : decode cX5_remove 135 = .ok (.iconst 4, 1) := by decide +kernel
theorem dX5_remove_136 : decode cX5_remove 136 = .ok (.if_icmp .ne 7, 3) := by decide +kernel
theorem dX5_remove_139 : decode cX5_remove 139 = .ok (.iconst 4, 1) := by decide +kernel
theorem dX5_remove_140 : decode cX5_remove 140 = .ok (.goto 4, 3) := by decide +kernel
theorem dX5_remove_143 : decode cX5_remove 143 = .ok (.iconst 0, 1) := by decide +kernel
theorem dX5_remove_144 : decode cX5_remove 144 = .ok (.ireturn, 1) := by decide +kernel
theorem dX5_feed_0 : decode cX5_feed 0 = .ok (.aload_n 0, 1) := by decide +kernel
theorem dX5_feed_1 : decode cX5_feed 1 = .ok (.iconst 0, 1) := by decide +kernel
theorem dX5_feed_2 : decode cX5_feed 2 = .ok (.putfield 1, 3) := by decide +kernel
theorem dX5_feed_5 : decode cX5_feed 5 = .ok (.iload_n 1, 1) := by decide +kernel
theorem dX5_feed_6 : decode cX5_feed 6 = .ok (.iconst 1, 1) := by decide +kernel
theorem dX5_feed_7 : decode cX5_feed 7 = .ok (.if_icmp .lt 9, 3) := by decide +kernel
theorem dX5_feed_10 : decode cX5_feed 10 = .ok (.iload_n 1, 1) := by decide +kernel
theorem dX5_feed_11 : decode cX5_feed 11 = .ok (.bipush 16, 2) := by decide +kernel
theorem dX5_feed_13 : decode cX5_feed 13 = .ok (.if_icmp .le 9, 3) := by decide +kernel
theorem dX5_feed_16 : decode cX5_feed 16 = .ok (.aload_n 0, 1) := by decide +kernel
theorem dX5_feed_17 : decode cX5_feed 17 = .ok (.iconst 1, 1) := by decide +kernel
theorem dX5_feed_18 : decode cX5_feed 18 = .ok (.invokevirtual 175, 3) := by decide +kernel
theorem dX5_feed_21 : decode cX5_feed 21 = .ok (.ireturn, 1) := by decide +kernel
theorem dX5_feed_22 : decode cX5_feed 22 = .ok (.aload_n 0, 1) := by decide +kernel
theorem dX5_feed_23 : decode cX5_feed 23 = .ok (.getfield 172, 3) := by decide +kernel
theorem dX5_feed_26 : decode cX5_feed 26 = .ok (.iload_n 1, 1) := by decide +kernel
theorem dX5_feed_27 : decode cX5_feed 27 = .ok (.iadd, 1) := by decide +kernel
theorem dX5_feed_28 : decode cX5_feed 28 = .ok (.bipush 48, 2) := by decide +kernel
theorem dX5_feed_30 : decode cX5_feed 30 = .ok (.if_icmp .le 9, 3) := by decide +kernel
theorem dX5_feed_33 : decode cX5_feed 33 = .ok (.aload_n 0, 1) := by decide +kernel
theorem dX5_feed_34 : decode cX5_feed 34 = .ok (.iconst 2, 1) := by decide +kernel
theorem dX5_feed_35 : decode cX5_feed 35 = .ok (.invokevirtual 175, 3) := by decide +kernel
theorem dX5_feed_38 : decode cX5_feed 38 = .ok (.ireturn, 1) := by decide +kernel
theorem dX5_feed_39 : decode cX5_feed 39 = .ok (.iconst 0, 1) := by decide +kernel
theorem dX5_feed_40 : decode cX5_feed 40 = .ok (.istore 6, 2) := by decide +kernel
theorem dX5_feed_42 : decode cX5_feed 42 = .ok (.iload 6, 2) := by decide +kernel
theorem dX5_feed_44 : decode cX5_feed 44 = .ok (.iload_n 1, 1) := by decide +kernel
theorem dX5_feed_45 : decode cX5_feed 45 = .ok (.if_icmp .ge 52, 3) := by decide +kernel
theorem dX5_feed_48 : decode cX5_feed 48 = .ok (.aload_n 0, 1) := by decide +kernel
theorem dX5_feed_49 : decode cX5_feed 49 = .ok (.getfield 53, 3) := by decide +kernel
theorem dX5_feed_52 : decode cX5_feed 52 = .ok (.aload_n 0, 1) := by decide +kernel
theorem dX5_feed_53 : decode cX5_feed 53 = .ok (.getfield 172, 3) := by decide +kernel
theorem dX5_feed_56 : decode cX5_feed 56 = .ok (.iload 6, 2) := by decide +kernel
theorem dX5_feed_58 : decode cX5_feed 58 = .ok (.bipush 8, 2) := by decide +kernel
theorem dX5_feed_60 : decode cX5_feed 60 = .ok (.if_icmp .ge 7, 3) := by decide +kernel
theorem dX5_feed_63 : decode cX5_feed 63 = .ok (.lload_n 2, 1) := by decide +kernel
theorem dX5_feed_64 : decode cX5_feed 64 = .ok (.goto 5, 3) := by decide +kernel
theorem dX5_feed_67 : decode cX5_feed 67 = .ok (.lload 4, 2) := by decide +kernel
theorem dX5_feed_69 : decode cX5_feed 69 = .ok (.bipush 8, 2) := by decide +kernel
theorem dX5_feed_71 : decode cX5_feed 71 = .ok (.iload 6, 2) := by decide +kernel
theorem dX5_feed_73 : decode cX5_feed 73 = .ok (.bipush 8, 2) := by decide +kernel
theorem dX5_feed_75 : decode cX5_feed 75 = .ok (.irem, 1) := by decide +kernel
theorem dX5_feed_76 : decode cX5_feed 76 = .ok (.imul, 1) := by decide +kernel
theorem dX5_feed_77 : decode cX5_feed 77 = .ok (.lshr, 1) := by decide +kernel
theorem dX5_feed_78 : decode cX5_feed 78 = .ok (.l2i, 1) := by decide +kernel
theorem dX5_feed_79 : decode cX5_feed 79 = .ok (.i2b, 1) := by decide +kernel
theorem dX5_feed_80 : decode cX5_feed 80 = .ok (.bastore, 1) := by decide +kernel
theorem dX5_feed_81 : decode cX5_feed 81 = .ok (.aload_n 0, 1) := by decide +kernel
theorem dX5_feed_82 : decode cX5_feed 82 = .ok (.dup, 1) := by decide +kernel
theorem dX5_feed_83 : decode cX5_feed 83 = .ok (.getfield 172, 3) := by decide +kernel
theorem dX5_feed_86 : decode cX5_feed 86 = .ok (.iconst 1, 1) := by decide +kernel
theorem dX5_feed_87 : decode cX5_feed 87 = .ok (.iadd, 1) := by decide +kernel
theorem dX5_feed_88 : decode cX5_feed 88 = .ok (.putfield 172, 3) := by decide +kernel
theorem dX5_feed_91 : decode cX5_feed 91 = .ok (.iinc 6 1, 3) := by decide +kernel
theorem dX5_feed_94 : decode cX5_feed 94 = .ok (.goto (-52), 3) := by decide +kernel
theorem dX5_feed_97 : decode cX5_feed 97 = .ok (.aload_n 0, 1) := by decide +kernel
theorem dX5_feed_98 : decode cX5_feed 98 = .ok (.getfield 172, 3) := by decide +kernel
theorem dX5_feed_101 : decode cX5_feed 101 = .ok (.ireturn, 1) := by decide +kernel
theorem dX5_get_0 : decode cX5_get 0 = .ok (.aload_n 0, 1) := by decide +kernel
theorem dX5_get_1 : decode cX5_get 1 = .ok (.iconst 0, 1) := by decide +kernel
theorem dX5_get_2 : decode cX5_get 2 = .ok (.putfield 1, 3) := by decide +kernel
theorem dX5_get_5 : decode cX5_get 5 = .ok (.aload_n 0, 1) := by decide +kernel
theorem dX5_get_6 : decode cX5_get 6 = .ok (.getfield 172, 3) := by decide +kernel
theorem dX5_get_9 : decode cX5_get 9 = .ok (.istore_n 1, 1) := by decide +kernel
theorem dX5_get_10 : decode cX5_get 10 = .ok (.aload_n 0, 1) := by decide +kernel
theorem dX5_get_11 : decode cX5_get 11 = .ok (.iconst 0, 1) := by decide +kernel
theorem dX5_get_12 : decode cX5_get 12 = .ok (.putfield 172, 3) := by decide +kernel
theorem dX5_get_15 : decode cX5_get 15 = .ok (.aload_n 0, 1) := by decide +kernel
theorem dX5_get_16 : decode cX5_get 16 = .ok (.getfield 81, 3) := by decide +kernel
theorem dX5_get_19 : decode cX5_get 19 = .ok (.ifCond .eq 9, 3) := by decide +kernel
theorem dX5_get_22 : decode cX5_get 22 = .ok (.aload_n 0, 1) := by decide +kernel
theorem dX5_get_23 : decode cX5_get 23 = .ok (.iconst 1, 1) := by decide +kernel
theorem dX5_get_24 : decode cX5_get 24 = .ok (.invokevirtual 175, 3) := by decide +kernel
theorem dX5_get_27 : decode cX5_get 27 = .ok (.ireturn, 1) := by decide +kernel
theorem dX5_get_28 : decode cX5_get 28 = .ok (.aload_n 0, 1) := by decide +kernel
theorem dX5_get_29 : decode cX5_get 29 = .ok (.iconst 0, 1) := by decide +kernel
theorem dX5_get_30 : decode cX5_get 30 = .ok (.putfield 85, 3) := by decide +kernel
theorem dX5_get_33 : decode cX5_get 33 = .ok (.iload_n 1, 1) := by decide +kernel
theorem dX5_get_34 : decode cX5_get 34 = .ok (.iconst 1, 1) := by decide +kernel
theorem dX5_get_35 : decode cX5_get 35 = .ok (.if_icmp .lt 9, 3) := by decide +kernel
theorem dX5_get_38 : decode cX5_get 38 = .ok (.iload_n 1, 1) := by decide +kernel
theorem dX5_get_39 : decode cX5_get 39 = .ok (.bipush 16, 2) := by decide +kernel
theorem dX5_get_41 : decode cX5_get 41 = .ok (.if_icmp .le 5, 3) := by decide +kernel
theorem dX5_get_44 : decode cX5_get 44 = .ok (.iconst (-1), 1) := by decide +kernel
theorem dX5_get_45 : decode cX5_get 45 = .ok (.ireturn, 1) := by decide +kernel
theorem dX5_get_46 : decode cX5_get 46 = .ok (.aload_n 0, 1) := by decide +kernel
theorem dX5_get_47 : decode cX5_get 47 = .ok (.iload_n 1, 1) := by decide +kernel
theorem dX5_get_48 : decode cX5_get 48 = .ok (.invokevirtual 178, 3) := by decide +kernel
theorem dX5_get_51 : decode cX5_get 51 = .ok (.istore_n 2, 1) := by decide +kernel
theorem dX5_get_52 : decode cX5_get 52 = .ok (.aload_n 0, 1) := by decide +kernel
theorem dX5_get_53 : decode cX5_get 53 = .ok (.iload_n 2, 1) := by decide +kernel
theorem dX5_get_54 : decode cX5_get 54 = .ok (.iload_n 1, 1) := by decide +kernel
theorem dX5_get_55 : decode cX5_get 55 = .ok (.invokevirtual 169, 3) := by decide +kernel
theorem dX5_get_58 : decode cX5_get 58 = .ok (.istore_n 3, 1) := by decide +kernel
theorem dX5_get_59 : decode cX5_get 59 = .ok (.iload_n 3, 1) := by decide +kernel
theorem dX5_get_60 : decode cX5_get 60 = .ok (.iconst (-1), 1) := by decide +kernel
theorem dX5_get_61 : decode cX5_get 61 = .ok (.if_icmp .ne 5, 3) := by decide +kernel
theorem dX5_get_64 : decode cX5_get 64 = .ok (.iconst (-1), 1) := by decide +kernel
theorem dX5_get_65 : decode cX5_get 65 = .ok (.ireturn, 1) := by decide +kernel
theorem dX5_get_66 : decode cX5_get 66 = .ok (.bipush 90, 2) := by decide +kernel
theorem dX5_get_68 : decode cX5_get 68 = .ok (.iload_n 2, 1) := by decide +kernel
theorem dX5_get_69 : decode cX5_get 69 = .ok (.imul, 1) := by decide +kernel
theorem dX5_get_70 : decode cX5_get 70 = .ok (.iload_n 3, 1) := by decide +kernel
theorem dX5_get_71 : decode cX5_get 71 = .ok (.iadd, 1) := by decide +kernel
theorem dX5_get_72 : decode cX5_get 72 = .ok (.istore 4, 2) := by decide +kernel
theorem dX5_get_74 : decode cX5_get 74 = .ok (.aload_n 0, 1) := by decide +kernel
theorem dX5_get_75 : decode cX5_get 75 = .ok (.aload_n 0, 1) := by decide +kernel
theorem dX5_get_76 : decode cX5_get 76 = .ok (.getfield 41, 3) := by decide +kernel
theorem dX5_get_79 : decode cX5_get 79 = .ok (.iload 4, 2) := by decide +kernel
theorem dX5_get_81 : decode cX5_get 81 = .ok (.iaload, 1) := by decide +kernel
theorem dX5_get_82 : decode cX5_get 82 = .ok (.putfield 85, 3) := by decide +kernel
theorem dX5_get_85 : decode cX5_get 85 = .ok (.iconst 0, 1) := by decide +kernel
theorem dX5_get_86 : decode cX5_get 86 = .ok (.istore 5, 2) := by decide +kernel
theorem dX5_get_88 : decode cX5_get 88 = .ok (.iload 5, 2) := by decide +kernel
theorem dX5_get_90 : decode cX5_get 90 = .ok (.aload_n 0, 1) := by decide +kernel
theorem dX5_get_91 : decode cX5_get 91 = .ok (.getfield 85, 3) := by decide +kernel
theorem dX5_get_94 : decode cX5_get 94 = .ok (.if_icmp .ge 25, 3) := by decide +kernel
theorem dX5_get_97 : decode cX5_get 97 = .ok (.aload_n 0, 1) := by decide +kernel
theorem dX5_get_98 : decode cX5_get 98 = .ok (.getfield 56, 3) := by decide +kernel
theorem dX5_get_101 : decode cX5_get 101 = .ok (.iload 5, 2) := by decide +kernel
theorem dX5_get_103 : decode cX5_get 103 = .ok (.aload_n 0, 1) := by decide +kernel
theorem dX5_get_104 : decode cX5_get 104 = .ok (.iload 4, 2) := by decide +kernel
theorem dX5_get_106 : decode cX5_get 106 = .ok (.iload 5, 2) := by decide +kernel
theorem dX5_get_108 : decode cX5_get 108 = .ok (.invokevirtual 121, 3) := by decide +kernel
theorem dX5_get_111 : decode cX5_get 111 = .ok (.i2b, 1) := by decide +kernel
theorem dX5_get_112 : decode cX5_get 112 = .ok (.bastore, 1) := by decide +kernel
theorem dX5_get_113 : decode cX5_get 113 = .ok (.iinc 5 1, 3) := by decide +kernel
theorem dX5_get_116 : decode cX5_get 116 = .ok (.goto (-28), 3) := by decide +kernel
theorem dX5_get_119 : decode cX5_get 119 = .ok (.aload_n 0, 1) := by decide +kernel
theorem dX5_get_120 : decode cX5_get 120 = .ok (.getfield 85, 3) := by decide +kernel
theorem dX5_get_123 : decode cX5_get 123 = .ok (.ireturn, 1) := by decide +kernel
theorem dX5_answer_0 : decode cX5_answer 0 = .ok (.aload_n 0, 1) := by decide +kernel
theorem dX5_answer_1 : decode cX5_answer 1 = .ok (.iconst 0, 1) := by decide +kernel
theorem dX5_answer_2 : decode cX5_answer 2 = .ok (.putfield 1, 3) := by decide +kernel
theorem dX5_answer_5 : decode cX5_answer 5 = .ok (.iload_n 1, 1) := by decide +kernel
theorem dX5_answer_6 : decode cX5_answer 6 = .ok (.ifCond .lt 11, 3) := by decide +kernel
theorem dX5_answer_9 : decode cX5_answer 9 = .ok (.iload_n 1, 1) := by decide +kernel
theorem dX5_answer_10 : decode cX5_answer 10 = .ok (.aload_n 0, 1) := by decide +kernel
theorem dX5_answer_11 : decode cX5_answer 11 = .ok (.getfield 85, 3) := by decide +kernel
theorem dX5_answer_14 : decode cX5_answer 14 = .ok (.if_icmp .lt 7, 3) := by decide +kernel
theorem dX5_answer_17 : decode cX5_answer 17 = .ok (.iconst (-1), 1) := by decide +kernel
theorem dX5_answer_18 : decode cX5_answer 18 = .ok (.goto 13, 3) := by decide +kernel
theorem dX5_answer_21 : decode cX5_answer 21 = .ok (.aload_n 0, 1) := by decide +kernel
theorem dX5_answer_22 : decode cX5_answer 22 = .ok (.getfield 56, 3) := by decide +kernel
theorem dX5_answer_25 : decode cX5_answer 25 = .ok (.iload_n 1, 1) := by decide +kernel
theorem dX5_answer_26 : decode cX5_answer 26 = .ok (.baload, 1) := by decide +kernel
theorem dX5_answer_27 : decode cX5_answer 27 = .ok (.sipush 255, 3) := by decide +kernel
theorem dX5_answer_30 : decode cX5_answer 30 = .ok (.iand, 1) := by decide +kernel
theorem dX5_answer_31 : decode cX5_answer 31 = .ok (.ireturn, 1) := by decide +kernel
theorem dX5_power_0 : decode cX5_power 0 = .ok (.aload_n 0, 1) := by decide +kernel
theorem dX5_power_1 : decode cX5_power 1 = .ok (.iconst 0, 1) := by decide +kernel
theorem dX5_power_2 : decode cX5_power 2 = .ok (.putfield 1, 3) := by decide +kernel
theorem dX5_power_5 : decode cX5_power 5 = .ok (.aload_n 0, 1) := by decide +kernel
theorem dX5_power_6 : decode cX5_power 6 = .ok (.getfield 81, 3) := by decide +kernel
theorem dX5_power_9 : decode cX5_power 9 = .ok (.ifCond .eq 11, 3) := by decide +kernel
theorem dX5_power_12 : decode cX5_power 12 = .ok (.aload_n 0, 1) := by decide +kernel
theorem dX5_power_13 : decode cX5_power 13 = .ok (.iconst 1, 1) := by decide +kernel
theorem dX5_power_14 : decode cX5_power 14 = .ok (.putfield 1, 3) := by decide +kernel
theorem dX5_power_17 : decode cX5_power 17 = .ok (.goto 21, 3) := by decide +kernel
theorem dX5_power_20 : decode cX5_power 20 = .ok (.iload_n 1, 1) := by decide +kernel
theorem dX5_power_21 : decode cX5_power 21 = .ok (.iconst (-1), 1) := by decide +kernel
theorem dX5_power_22 : decode cX5_power 22 = .ok (.if_icmp .ge 11, 3) := by decide +kernel
theorem dX5_power_25 : decode cX5_power 25 = .ok (.aload_n 0, 1) := by decide +kernel
theorem dX5_power_26 : decode cX5_power 26 = .ok (.iconst 2, 1) := by decide +kernel
theorem dX5_power_27 : decode cX5_power 27 = .ok (.putfield 1, 3) := by decide +kernel
theorem dX5_power_30 : decode cX5_power 30 = .ok (.goto 8, 3) := by decide +kernel
theorem dX5_power_33 : decode cX5_power 33 = .ok (.aload_n 0, 1) := by decide +kernel
theorem dX5_power_34 : decode cX5_power 34 = .ok (.iload_n 1, 1) := by decide +kernel
theorem dX5_power_35 : decode cX5_power 35 = .ok (.putfield 78, 3) := by decide +kernel
theorem dX5_power_38 : decode cX5_power 38 = .ok (.return_, 1) := by decide +kernel
theorem dX5_recover_0 : decode cX5_recover 0 = .ok (.aload_n 0, 1) := by decide +kernel
theorem dX5_recover_1 : decode cX5_recover 1 = .ok (.iconst 0, 1) := by decide +kernel
theorem dX5_recover_2 : decode cX5_recover 2 = .ok (.putfield 1, 3) := by decide +kernel
theorem dX5_recover_5 : decode cX5_recover 5 = .ok (.iload_n 1, 1) := by decide +kernel
theorem dX5_recover_6 : decode cX5_recover 6 = .ok (.iconst (-1), 1) := by decide +kernel
theorem dX5_recover_7 : decode cX5_recover 7 = .ok (.if_icmp .ge 9, 3) := by decide +kernel
theorem dX5_recover_10 : decode cX5_recover 10 = .ok (.aload_n 0, 1) := by decide +kernel
theorem dX5_recover_11 : decode cX5_recover 11 = .ok (.iconst 1, 1) := by decide +kernel
theorem dX5_recover_12 : decode cX5_recover 12 = .ok (.invokevirtual 175, 3) := by decide +kernel
theorem dX5_recover_15 : decode cX5_recover 15 = .ok (.ireturn, 1) := by decide +kernel
theorem dX5_recover_16 : decode cX5_recover 16 = .ok (.aload_n 0, 1) := by decide +kernel
theorem dX5_recover_17 : decode cX5_recover 17 = .ok (.iload_n 1, 1) := by decide +kernel
theorem dX5_recover_18 : decode cX5_recover 18 = .ok (.putfield 78, 3) := by decide +kernel
theorem dX5_recover_21 : decode cX5_recover 21 = .ok (.aload_n 0, 1) := by decide +kernel
theorem dX5_recover_22 : decode cX5_recover 22 = .ok (.iconst 0, 1) := by decide +kernel
theorem dX5_recover_23 : decode cX5_recover 23 = .ok (.putfield 81, 3) := by decide +kernel
theorem dX5_recover_26 : decode cX5_recover 26 = .ok (.aload_n 0, 1) := by decide +kernel
theorem dX5_recover_27 : decode cX5_recover 27 = .ok (.iconst 1, 1) := by decide +kernel
theorem dX5_recover_28 : decode cX5_recover 28 = .ok (.iconst 0, 1) := by decide +kernel
theorem dX5_recover_29 : decode cX5_recover 29 = .ok (.invokevirtual 91, 3) := by decide +kernel
theorem dX5_recover_32 : decode cX5_recover 32 = .ok (.istore_n 2, 1) := by decide +kernel
theorem dX5_recover_33 : decode cX5_recover 33 = .ok (.iconst 0, 1) := by decide +kernel
theorem dX5_recover_34 : decode cX5_recover 34 = .ok (.istore_n 3, 1) := by decide +kernel
theorem dX5_recover_35 : decode cX5_recover 35 = .ok (.iload_n 3, 1) := by decide +kernel
theorem dX5_recover_36 : decode cX5_recover 36 = .ok (.iload_n 2, 1) := by decide +kernel
theorem dX5_recover_37 : decode cX5_recover 37 = .ok (.if_icmp .ge 63, 3) := by decide +kernel
theorem dX5_recover_40 : decode cX5_recover 40 = .ok (.iconst 0, 1) := by decide +kernel
theorem dX5_recover_41 : decode cX5_recover 41 = .ok (.istore 4, 2) := by decide +kernel
theorem dX5_recover_43 : decode cX5_recover 43 = .ok (.iload 4, 2) := by decide +kernel
theorem dX5_recover_45 : decode cX5_recover 45 = .ok (.sipush 256, 3) := by decide +kernel
theorem dX5_recover_48 : decode cX5_recover 48 = .ok (.if_icmp .ge 25, 3) := by decide +kernel
theorem dX5_recover_51 : decode cX5_recover 51 = .ok (.aload_n 0, 1) := by decide +kernel
theorem dX5_recover_52 : decode cX5_recover 52 = .ok (.getfield 59, 3) := by decide +kernel
theorem dX5_recover_55 : decode cX5_recover 55 = .ok (.iload 4, 2) := by decide +kernel
theorem dX5_recover_57 : decode cX5_recover 57 = .ok (.aload_n 0, 1) := by decide +kernel
theorem dX5_recover_58 : decode cX5_recover 58 = .ok (.iconst 2, 1) := by decide +kernel
theorem dX5_recover_59 : decode cX5_recover 59 = .ok (.iload_n 3, 1) := by decide +kernel
theorem dX5_recover_60 : decode cX5_recover 60 = .ok (.iadd, 1) := by decide +kernel
theorem dX5_recover_61 : decode cX5_recover 61 = .ok (.iload 4, 2) := by decide +kernel
theorem dX5_recover_63 : decode cX5_recover 63 = .ok (.invokevirtual 91, 3) := by decide +kernel
theorem dX5_recover_66 : decode cX5_recover 66 = .ok (.iastore, 1) := by decide +kernel
theorem dX5_recover_67 : decode cX5_recover 67 = .ok (.iinc 4 1, 3) := by decide +kernel
theorem dX5_recover_70 : decode cX5_recover 70 = .ok (.goto (-27), 3) := by decide +kernel
theorem dX5_recover_73 : decode cX5_recover 73 = .ok (.aload_n 0, 1) := by decide +kernel
theorem dX5_recover_74 : decode cX5_recover 74 = .ok (.aload_n 0, 1) := by decide +kernel
theorem dX5_recover_75 : decode cX5_recover 75 = .ok (.iconst 1, 1) := by decide +kernel
theorem dX5_recover_76 : decode cX5_recover 76 = .ok (.iconst 1, 1) := by decide +kernel
theorem dX5_recover_77 : decode cX5_recover 77 = .ok (.iload_n 3, 1) := by decide +kernel
theorem dX5_recover_78 : decode cX5_recover 78 = .ok (.iadd, 1) := by decide +kernel
theorem dX5_recover_79 : decode cX5_recover 79 = .ok (.invokevirtual 91, 3) := by decide +kernel
theorem dX5_recover_82 : decode cX5_recover 82 = .ok (.invokevirtual 130, 3) := by decide +kernel
theorem dX5_recover_85 : decode cX5_recover 85 = .ok (.ifCond .ne 9, 3) := by decide +kernel
theorem dX5_recover_88 : decode cX5_recover 88 = .ok (.aload_n 0, 1) := by decide +kernel
theorem dX5_recover_89 : decode cX5_recover 89 = .ok (.invokevirtual 88, 3) := by decide +kernel
theorem dX5_recover_92 : decode cX5_recover 92 = .ok (.iconst 4, 1) := by decide +kernel
theorem dX5_recover_93 : decode cX5_recover 93 = .ok (.ireturn, 1) := by decide +kernel
theorem dX5_recover_94 : decode cX5_recover 94 = .ok (.iinc 3 1, 3) := by decide +kernel
theorem dX5_recover_97 : decode cX5_recover 97 = .ok (.goto (-62), 3) := by decide +kernel
theorem dX5_recover_100 : decode cX5_recover 100 = .ok (.iload_n 2, 1) := by decide +kernel
theorem dX5_recover_101 : decode cX5_recover 101 = .ok (.ifCond .le 22, 3) := by decide +kernel
theorem dX5_recover_104 : decode cX5_recover 104 = .ok (.aload_n 0, 1) := by decide +kernel
theorem dX5_recover_105 : decode cX5_recover 105 = .ok (.iconst 0, 1) := by decide +kernel
theorem dX5_recover_106 : decode cX5_recover 106 = .ok (.invokevirtual 133, 3) := by decide +kernel
theorem dX5_recover_109 : decode cX5_recover 109 = .ok (.aload_n 0, 1) := by decide +kernel
theorem dX5_recover_110 : decode cX5_recover 110 = .ok (.iconst 1, 1) := by decide +kernel
theorem dX5_recover_111 : decode cX5_recover 111 = .ok (.invokevirtual 130, 3) := by decide +kernel
theorem dX5_recover_114 : decode cX5_recover 114 = .ok (.ifCond .ne 9, 3) := by decide +kernel
theorem dX5_recover_117 : decode cX5_recover 117 = .ok (.aload_n 0, 1) := by decide +kernel
theorem dX5_recover_118 : decode cX5_recover 118 = .ok (.invokevirtual 88, 3) := by decide +kernel
theorem dX5_recover_121 : decode cX5_recover 121 = .ok (.iconst 4, 1) := by decide +kernel
theorem dX5_recover_122 : decode cX5_recover 122 = .ok (.ireturn, 1) := by decide +kernel
theorem dX5_recover_123 : decode cX5_recover 123 = .ok (.aload_n 0, 1) := by decide +kernel
theorem dX5_recover_124 : decode cX5_recover 124 = .ok (.invokevirtual 88, 3) := by decide +kernel
theorem dX5_recover_127 : decode cX5_recover 127 = .ok (.iconst 0, 1) := by decide +kernel
theorem dX5_recover_128 : decode cX5_recover 128 = .ok (.ireturn, 1) := by decide +kernel
theorem dX5_isPage_0 : decode cX5_isPage 0 = .ok (.iload_n 1, 1) := by decide +kernel
theorem dX5_isPage_1 : decode cX5_isPage 1 = .ok (.ifCond .lt 15, 3) := by decide +kernel
theorem dX5_isPage_4 : decode cX5_isPage 4 = .ok (.iload_n 1, 1) := by decide +kernel
theorem dX5_isPage_5 : decode cX5_isPage 5 = .ok (.aload_n 0, 1) := by decide +kernel
theorem dX5_isPage_6 : decode cX5_isPage 6 = .ok (.getfield 69, 3) := by decide +kernel
theorem dX5_isPage_9 : decode cX5_isPage 9 = .ok (.if_icmp .ge 7, 3) := by decide +kernel
theorem dX5_isPage_12 : decode cX5_isPage 12 = .ok (.iconst 1, 1) := by decide +kernel
theorem dX5_isPage_13 : decode cX5_isPage 13 = .ok (.goto 4, 3) := by decide +kernel
theorem dX5_isPage_16 : decode cX5_isPage 16 = .ok (.iconst 0, 1) := by decide +kernel
theorem dX5_isPage_17 : decode cX5_isPage 17 = .ok (.ireturn, 1) := by decide +kernel
theorem dX5_byteOf_0 : decode cX5_byteOf 0 = .ok (.aload_n 0, 1) := by decide +kernel
theorem dX5_byteOf_1 : decode cX5_byteOf 1 = .ok (.iconst 0, 1) := by decide +kernel
theorem dX5_byteOf_2 : decode cX5_byteOf 2 = .ok (.putfield 1, 3) := by decide +kernel
theorem dX5_byteOf_5 : decode cX5_byteOf 5 = .ok (.aload_n 0, 1) := by decide +kernel
theorem dX5_byteOf_6 : decode cX5_byteOf 6 = .ok (.iload_n 1, 1) := by decide +kernel
theorem dX5_byteOf_7 : decode cX5_byteOf 7 = .ok (.invokevirtual 208, 3) := by decide +kernel
theorem dX5_byteOf_10 : decode cX5_byteOf 10 = .ok (.ifCond .eq 14, 3) := by decide +kernel
theorem dX5_byteOf_13 : decode cX5_byteOf 13 = .ok (.iload_n 2, 1) := by decide +kernel
theorem dX5_byteOf_14 : decode cX5_byteOf 14 = .ok (.ifCond .lt 10, 3) := by decide +kernel
theorem dX5_byteOf_17 : decode cX5_byteOf 17 = .ok (.iload_n 2, 1) := by decide +kernel
theorem dX5_byteOf_18 : decode cX5_byteOf 18 = .ok (.sipush 255, 3) := by decide +kernel
theorem dX5_byteOf_21 : decode cX5_byteOf 21 = .ok (.if_icmp .le 7, 3) := by decide +kernel
theorem dX5_byteOf_24 : decode cX5_byteOf 24 = .ok (.iconst (-1), 1) := by decide +kernel
theorem dX5_byteOf_25 : decode cX5_byteOf 25 = .ok (.goto 9, 3) := by decide +kernel
theorem dX5_byteOf_28 : decode cX5_byteOf 28 = .ok (.aload_n 0, 1) := by decide +kernel
theorem dX5_byteOf_29 : decode cX5_byteOf 29 = .ok (.iload_n 1, 1) := by decide +kernel
theorem dX5_byteOf_30 : decode cX5_byteOf 30 = .ok (.iload_n 2, 1) := by decide +kernel
theorem dX5_byteOf_31 : decode cX5_byteOf 31 = .ok (.invokevirtual 91, 3) := by decide +kernel
theorem dX5_byteOf_34 : decode cX5_byteOf 34 = .ok (.ireturn, 1) := by decide +kernel
theorem dX5_kindOf_0 : decode cX5_kindOf 0 = .ok (.iload_n 1, 1) := by decide +kernel
theorem dX5_kindOf_1 : decode cX5_kindOf 1 = .ok (.iconst 2, 1) := by decide +kernel
theorem dX5_kindOf_2 : decode cX5_kindOf 2 = .ok (.if_icmp .ge 7, 3) := by decide +kernel
theorem dX5_kindOf_5 : decode cX5_kindOf 5 = .ok (.iload_n 1, 1) := by decide +kernel
theorem dX5_kindOf_6 : decode cX5_kindOf 6 = .ok (.iconst 1, 1) := by decide +kernel
theorem dX5_kindOf_7 : decode cX5_kindOf 7 = .ok (.iadd, 1) := by decide +kernel
theorem dX5_kindOf_8 : decode cX5_kindOf 8 = .ok (.ireturn, 1) := by decide +kernel
theorem dX5_kindOf_9 : decode cX5_kindOf 9 = .ok (.iload_n 1, 1) := by decide +kernel
theorem dX5_kindOf_10 : decode cX5_kindOf 10 = .ok (.aload_n 0, 1) := by decide +kernel
theorem dX5_kindOf_11 : decode cX5_kindOf 11 = .ok (.getfield 72, 3) := by decide +kernel
theorem dX5_kindOf_14 : decode cX5_kindOf 14 = .ok (.iconst 2, 1) := by decide +kernel
theorem dX5_kindOf_15 : decode cX5_kindOf 15 = .ok (.iadd, 1) := by decide +kernel
theorem dX5_kindOf_16 : decode cX5_kindOf 16 = .ok (.if_icmp .ge 7, 3) := by decide +kernel
theorem dX5_kindOf_19 : decode cX5_kindOf 19 = .ok (.iconst 3, 1) := by decide +kernel
theorem dX5_kindOf_20 : decode cX5_kindOf 20 = .ok (.goto 29, 3) := by decide +kernel
theorem dX5_kindOf_23 : decode cX5_kindOf 23 = .ok (.aload_n 0, 1) := by decide +kernel
theorem dX5_kindOf_24 : decode cX5_kindOf 24 = .ok (.iload_n 1, 1) := by decide +kernel
theorem dX5_kindOf_25 : decode cX5_kindOf 25 = .ok (.invokevirtual 101, 3) := by decide +kernel
theorem dX5_kindOf_28 : decode cX5_kindOf 28 = .ok (.ifCond .eq 7, 3) := by decide +kernel
theorem dX5_kindOf_31 : decode cX5_kindOf 31 = .ok (.iconst 4, 1) := by decide +kernel
theorem dX5_kindOf_32 : decode cX5_kindOf 32 = .ok (.goto 17, 3) := by decide +kernel
theorem dX5_kindOf_35 : decode cX5_kindOf 35 = .ok (.aload_n 0, 1) := by decide +kernel
theorem dX5_kindOf_36 : decode cX5_kindOf 36 = .ok (.getfield 28, 3) := by decide +kernel
theorem dX5_kindOf_39 : decode cX5_kindOf 39 = .ok (.iload_n 1, 1) := by decide +kernel
theorem dX5_kindOf_40 : decode cX5_kindOf 40 = .ok (.baload, 1) := by decide +kernel
theorem dX5_kindOf_41 : decode cX5_kindOf 41 = .ok (.ifCond .eq 7, 3) := by decide +kernel
theorem dX5_kindOf_44 : decode cX5_kindOf 44 = .ok (.iconst 5, 1) := by decide +kernel
theorem dX5_kindOf_45 : decode cX5_kindOf 45 = .ok (.goto 4, 3) := by decide +kernel
theorem dX5_kindOf_48 : decode cX5_kindOf 48 = .ok (.iconst 0, 1) := by decide +kernel
theorem dX5_kindOf_49 : decode cX5_kindOf 49 = .ok (.ireturn, 1) := by decide +kernel
theorem dX5_kind_0 : decode cX5_kind 0 = .ok (.aload_n 0, 1) := by decide +kernel
theorem dX5_kind_1 : decode cX5_kind 1 = .ok (.iconst 0, 1) := by decide +kernel
theorem dX5_kind_2 : decode cX5_kind 2 = .ok (.putfield 1, 3) := by decide +kernel
theorem dX5_kind_5 : decode cX5_kind 5 = .ok (.aload_n 0, 1) := by decide +kernel
theorem dX5_kind_6 : decode cX5_kind 6 = .ok (.iload_n 1, 1) := by decide +kernel
theorem dX5_kind_7 : decode cX5_kind 7 = .ok (.invokevirtual 208, 3) := by decide +kernel
theorem dX5_kind_10 : decode cX5_kind 10 = .ok (.ifCond .eq 11, 3) := by decide +kernel
theorem dX5_kind_13 : decode cX5_kind 13 = .ok (.aload_n 0, 1) := by decide +kernel
theorem dX5_kind_14 : decode cX5_kind 14 = .ok (.iload_n 1, 1) := by decide +kernel
theorem dX5_kind_15 : decode cX5_kind 15 = .ok (.invokevirtual 211, 3) := by decide +kernel
theorem dX5_kind_18 : decode cX5_kind 18 = .ok (.goto 4, 3) := by decide +kernel
theorem dX5_kind_21 : decode cX5_kind 21 = .ok (.iconst (-1), 1) := by decide +kernel
theorem dX5_kind_22 : decode cX5_kind 22 = .ok (.ireturn, 1) := by decide +kernel
theorem dX5_hash_0 : decode cX5_hash 0 = .ok (.aload_n 0, 1) := by decide +kernel
theorem dX5_hash_1 : decode cX5_hash 1 = .ok (.iconst 0, 1) := by decide +kernel
theorem dX5_hash_2 : decode cX5_hash 2 = .ok (.putfield 1, 3) := by decide +kernel
theorem dX5_hash_5 : decode cX5_hash 5 = .ok (.aload_n 0, 1) := by decide +kernel
theorem dX5_hash_6 : decode cX5_hash 6 = .ok (.getfield 172, 3) := by decide +kernel
theorem dX5_hash_9 : decode cX5_hash 9 = .ok (.iconst 1, 1) := by decide +kernel
theorem dX5_hash_10 : decode cX5_hash 10 = .ok (.if_icmp .lt 12, 3) := by decide +kernel
theorem dX5_hash_13 : decode cX5_hash 13 = .ok (.aload_n 0, 1) := by decide +kernel
theorem dX5_hash_14 : decode cX5_hash 14 = .ok (.getfield 172, 3) := by decide +kernel
theorem dX5_hash_17 : decode cX5_hash 17 = .ok (.bipush 16, 2) := by decide +kernel
theorem dX5_hash_19 : decode cX5_hash 19 = .ok (.if_icmp .le 7, 3) := by decide +kernel
theorem dX5_hash_22 : decode cX5_hash 22 = .ok (.iconst (-1), 1) := by decide +kernel
theorem dX5_hash_23 : decode cX5_hash 23 = .ok (.goto 11, 3) := by decide +kernel
theorem dX5_hash_26 : decode cX5_hash 26 = .ok (.aload_n 0, 1) := by decide +kernel
theorem dX5_hash_27 : decode cX5_hash 27 = .ok (.aload_n 0, 1) := by decide +kernel
theorem dX5_hash_28 : decode cX5_hash 28 = .ok (.getfield 172, 3) := by decide +kernel
theorem dX5_hash_31 : decode cX5_hash 31 = .ok (.invokevirtual 140, 3) := by decide +kernel
theorem dX5_hash_34 : decode cX5_hash 34 = .ok (.ireturn, 1) := by decide +kernel
theorem dX5_entry_0 : decode cX5_entry 0 = .ok (.aload_n 0, 1) := by decide +kernel
theorem dX5_entry_1 : decode cX5_entry 1 = .ok (.iconst 0, 1) := by decide +kernel
theorem dX5_entry_2 : decode cX5_entry 2 = .ok (.putfield 1, 3) := by decide +kernel
theorem dX5_entry_5 : decode cX5_entry 5 = .ok (.iload_n 1, 1) := by decide +kernel
theorem dX5_entry_6 : decode cX5_entry 6 = .ok (.ifCond .lt 13, 3) := by decide +kernel
theorem dX5_entry_9 : decode cX5_entry 9 = .ok (.iload_n 1, 1) := by decide +kernel
theorem dX5_entry_10 : decode cX5_entry 10 = .ok (.iconst 1, 1) := by decide +kernel
theorem dX5_entry_11 : decode cX5_entry 11 = .ok (.aload_n 0, 1) := by decide +kernel
theorem dX5_entry_12 : decode cX5_entry 12 = .ok (.getfield 95, 3) := by decide +kernel
theorem dX5_entry_15 : decode cX5_entry 15 = .ok (.ishl, 1) := by decide +kernel
theorem dX5_entry_16 : decode cX5_entry 16 = .ok (.if_icmp .lt 7, 3) := by decide +kernel
theorem dX5_entry_19 : decode cX5_entry 19 = .ok (.iconst (-1), 1) := by decide +kernel
theorem dX5_entry_20 : decode cX5_entry 20 = .ok (.goto 9, 3) := by decide +kernel
theorem dX5_entry_23 : decode cX5_entry 23 = .ok (.aload_n 0, 1) := by decide +kernel
theorem dX5_entry_24 : decode cX5_entry 24 = .ok (.getfield 22, 3) := by decide +kernel
theorem dX5_entry_27 : decode cX5_entry 27 = .ok (.iload_n 1, 1) := by decide +kernel
theorem dX5_entry_28 : decode cX5_entry 28 = .ok (.iaload, 1) := by decide +kernel
theorem dX5_entry_29 : decode cX5_entry 29 = .ok (.ireturn, 1) := by decide +kernel
theorem dX5_bucket__0 : decode cX5_bucket_ 0 = .ok (.aload_n 0, 1) := by decide +kernel
theorem dX5_bucket__1 : decode cX5_bucket_ 1 = .ok (.iconst 0, 1) := by decide +kernel
theorem dX5_bucket__2 : decode cX5_bucket_ 2 = .ok (.putfield 1, 3) := by decide +kernel
theorem dX5_bucket__5 : decode cX5_bucket_ 5 = .ok (.aload_n 0, 1) := by decide +kernel
theorem dX5_bucket__6 : decode cX5_bucket_ 6 = .ok (.iload_n 1, 1) := by decide +kernel
theorem dX5_bucket__7 : decode cX5_bucket_ 7 = .ok (.invokevirtual 208, 3) := by decide +kernel
theorem dX5_bucket__10 : decode cX5_bucket_ 10 = .ok (.ifCond .eq 12, 3) := by decide +kernel
theorem dX5_bucket__13 : decode cX5_bucket_ 13 = .ok (.aload_n 0, 1) := by decide +kernel
theorem dX5_bucket__14 : decode cX5_bucket_ 14 = .ok (.getfield 28, 3) := by decide +kernel
theorem dX5_bucket__17 : decode cX5_bucket_ 17 = .ok (.iload_n 1, 1) := by decide +kernel
theorem dX5_bucket__18 : decode cX5_bucket_ 18 = .ok (.baload, 1) := by decide +kernel
theorem dX5_bucket__19 : decode cX5_bucket_ 19 = .ok (.ifCond .ne 5, 3) := by decide +kernel
theorem dX5_bucket__22 : decode cX5_bucket_ 22 = .ok (.iconst (-1), 1) := by decide +kernel
theorem dX5_bucket__23 : decode cX5_bucket_ 23 = .ok (.ireturn, 1) := by decide +kernel
theorem dX5_bucket__24 : decode cX5_bucket_ 24 = .ok (.iload_n 2, 1) := by decide +kernel
theorem dX5_bucket__25 : decode cX5_bucket_ 25 = .ok (.ifCond .ne 12, 3) := by decide +kernel
theorem dX5_bucket__28 : decode cX5_bucket_ 28 = .ok (.aload_n 0, 1) := by decide +kernel
theorem dX5_bucket__29 : decode cX5_bucket_ 29 = .ok (.getfield 32, 3) := by decide +kernel
theorem dX5_bucket__32 : decode cX5_bucket_ 32 = .ok (.iload_n 1, 1) := by decide +kernel
theorem dX5_bucket__33 : decode cX5_bucket_ 33 = .ok (.iaload, 1) := by decide +kernel
theorem dX5_bucket__34 : decode cX5_bucket_ 34 = .ok (.goto 31, 3) := by decide +kernel
theorem dX5_bucket__37 : decode cX5_bucket_ 37 = .ok (.iload_n 2, 1) := by decide +kernel
theorem dX5_bucket__38 : decode cX5_bucket_ 38 = .ok (.iconst 1, 1) := by decide +kernel
theorem dX5_bucket__39 : decode cX5_bucket_ 39 = .ok (.if_icmp .ne 12, 3) := by decide +kernel
theorem dX5_bucket__42 : decode cX5_bucket_ 42 = .ok (.aload_n 0, 1) := by decide +kernel
theorem dX5_bucket__43 : decode cX5_bucket_ 43 = .ok (.getfield 35, 3) := by decide +kernel
theorem dX5_bucket__46 : decode cX5_bucket_ 46 = .ok (.iload_n 1, 1) := by decide +kernel
theorem dX5_bucket__47 : decode cX5_bucket_ 47 = .ok (.iaload, 1) := by decide +kernel
theorem dX5_bucket__48 : decode cX5_bucket_ 48 = .ok (.goto 17, 3) := by decide +kernel
theorem dX5_bucket__51 : decode cX5_bucket_ 51 = .ok (.iload_n 2, 1) := by decide +kernel
theorem dX5_bucket__52 : decode cX5_bucket_ 52 = .ok (.iconst 2, 1) := by decide +kernel
theorem dX5_bucket__53 : decode cX5_bucket_ 53 = .ok (.if_icmp .ne 11, 3) := by decide +kernel
theorem dX5_bucket__56 : decode cX5_bucket_ 56 = .ok (.aload_n 0, 1) := by decide +kernel
theorem dX5_bucket__57 : decode cX5_bucket_ 57 = .ok (.iload_n 1, 1) := by decide +kernel
theorem dX5_bucket__58 : decode cX5_bucket_ 58 = .ok (.invokevirtual 117, 3) := by decide +kernel
theorem dX5_bucket__61 : decode cX5_bucket_ 61 = .ok (.goto 4, 3) := by decide +kernel
theorem dX5_bucket__64 : decode cX5_bucket_ 64 = .ok (.iconst (-1), 1) := by decide +kernel
theorem dX5_bucket__65 : decode cX5_bucket_ 65 = .ok (.ireturn, 1) := by decide +kernel
theorem dX5_record_0 : decode cX5_record 0 = .ok (.aload_n 0, 1) := by decide +kernel
theorem dX5_record_1 : decode cX5_record 1 = .ok (.iconst 0, 1) := by decide +kernel
theorem dX5_record_2 : decode cX5_record 2 = .ok (.putfield 1, 3) := by decide +kernel
theorem dX5_record_5 : decode cX5_record 5 = .ok (.aload_n 0, 1) := by decide +kernel
theorem dX5_record_6 : decode cX5_record 6 = .ok (.iload_n 1, 1) := by decide +kernel
theorem dX5_record_7 : decode cX5_record 7 = .ok (.invokevirtual 208, 3) := by decide +kernel
theorem dX5_record_10 : decode cX5_record 10 = .ok (.ifCond .eq 40, 3) := by decide +kernel
theorem dX5_record_13 : decode cX5_record 13 = .ok (.aload_n 0, 1) := by decide +kernel
theorem dX5_record_14 : decode cX5_record 14 = .ok (.getfield 28, 3) := by decide +kernel
theorem dX5_record_17 : decode cX5_record 17 = .ok (.iload_n 1, 1) := by decide +kernel
theorem dX5_record_18 : decode cX5_record 18 = .ok (.baload, 1) := by decide +kernel
theorem dX5_record_19 : decode cX5_record 19 = .ok (.ifCond .eq 31, 3) := by decide +kernel
theorem dX5_record_22 : decode cX5_record 22 = .ok (.iload_n 2, 1) := by decide +kernel
theorem dX5_record_23 : decode cX5_record 23 = .ok (.ifCond .lt 27, 3) := by decide +kernel
theorem dX5_record_26 : decode cX5_record 26 = .ok (.iload_n 2, 1) := by decide +kernel
theorem dX5_record_27 : decode cX5_record 27 = .ok (.aload_n 0, 1) := by decide +kernel
theorem dX5_record_28 : decode cX5_record 28 = .ok (.getfield 35, 3) := by decide +kernel
theorem dX5_record_31 : decode cX5_record 31 = .ok (.iload_n 1, 1) := by decide +kernel
theorem dX5_record_32 : decode cX5_record 32 = .ok (.iaload, 1) := by decide +kernel
theorem dX5_record_33 : decode cX5_record 33 = .ok (.if_icmp .ge 17, 3) := by decide +kernel
theorem dX5_record_36 : decode cX5_record 36 = .ok (.iload 4, 2) := by decide +kernel
theorem dX5_record_38 : decode cX5_record 38 = .ok (.ifCond .lt 12, 3) := by decide +kernel
theorem dX5_record_41 : decode cX5_record 41 = .ok (.iload_n 3, 1) := by decide +kernel
theorem dX5_record_42 : decode cX5_record 42 = .ok (.ifCond .lt 8, 3) := by decide +kernel
theorem dX5_record_45 : decode cX5_record 45 = .ok (.iload_n 3, 1) := by decide +kernel
theorem dX5_record_46 : decode cX5_record 46 = .ok (.iconst 1, 1) := by decide +kernel
theorem dX5_record_47 : decode cX5_record 47 = .ok (.if_icmp .le 5, 3) := by decide +kernel
theorem dX5_record_50 : decode cX5_record 50 = .ok (.iconst (-1), 1) := by decide +kernel
theorem dX5_record_51 : decode cX5_record 51 = .ok (.ireturn, 1) := by decide +kernel
theorem dX5_record_52 : decode cX5_record 52 = .ok (.bipush 90, 2) := by decide +kernel
theorem dX5_record_54 : decode cX5_record 54 = .ok (.iload_n 1, 1) := by decide +kernel
theorem dX5_record_55 : decode cX5_record 55 = .ok (.imul, 1) := by decide +kernel
theorem dX5_record_56 : decode cX5_record 56 = .ok (.iload_n 2, 1) := by decide +kernel
theorem dX5_record_57 : decode cX5_record 57 = .ok (.iadd, 1) := by decide +kernel
theorem dX5_record_58 : decode cX5_record 58 = .ok (.istore 5, 2) := by decide +kernel
theorem dX5_record_60 : decode cX5_record 60 = .ok (.iload_n 3, 1) := by decide +kernel
theorem dX5_record_61 : decode cX5_record 61 = .ok (.ifCond .ne 28, 3) := by decide +kernel
theorem dX5_record_64 : decode cX5_record 64 = .ok (.iload 4, 2) := by decide +kernel
theorem dX5_record_66 : decode cX5_record 66 = .ok (.aload_n 0, 1) := by decide +kernel
theorem dX5_record_67 : decode cX5_record 67 = .ok (.getfield 38, 3) := by decide +kernel
theorem dX5_record_70 : decode cX5_record 70 = .ok (.iload 5, 2) := by decide +kernel
theorem dX5_record_72 : decode cX5_record 72 = .ok (.iaload, 1) := by decide +kernel
theorem dX5_record_73 : decode cX5_record 73 = .ok (.if_icmp .ge 14, 3) := by decide +kernel
theorem dX5_record_76 : decode cX5_record 76 = .ok (.aload_n 0, 1) := by decide +kernel
theorem dX5_record_77 : decode cX5_record 77 = .ok (.iload 5, 2) := by decide +kernel
theorem dX5_record_79 : decode cX5_record 79 = .ok (.iload 4, 2) := by decide +kernel
theorem dX5_record_81 : decode cX5_record 81 = .ok (.invokevirtual 111, 3) := by decide +kernel
theorem dX5_record_84 : decode cX5_record 84 = .ok (.goto 4, 3) := by decide +kernel
theorem dX5_record_87 : decode cX5_record 87 = .ok (.iconst (-1), 1) := by decide +kernel
theorem dX5_record_88 : decode cX5_record 88 = .ok (.ireturn, 1) := by decide +kernel
theorem dX5_record_89 : decode cX5_record 89 = .ok (.iload 4, 2) := by decide +kernel
theorem dX5_record_91 : decode cX5_record 91 = .ok (.aload_n 0, 1) := by decide +kernel
theorem dX5_record_92 : decode cX5_record 92 = .ok (.getfield 41, 3) := by decide +kernel
theorem dX5_record_95 : decode cX5_record 95 = .ok (.iload 5, 2) := by decide +kernel
theorem dX5_record_97 : decode cX5_record 97 = .ok (.iaload, 1) := by decide +kernel
theorem dX5_record_98 : decode cX5_record 98 = .ok (.if_icmp .ge 14, 3) := by decide +kernel
theorem dX5_record_101 : decode cX5_record 101 = .ok (.aload_n 0, 1) := by decide +kernel
theorem dX5_record_102 : decode cX5_record 102 = .ok (.iload 5, 2) := by decide +kernel
theorem dX5_record_104 : decode cX5_record 104 = .ok (.iload 4, 2) := by decide +kernel
theorem dX5_record_106 : decode cX5_record 106 = .ok (.invokevirtual 121, 3) := by decide +kernel
theorem dX5_record_109 : decode cX5_record 109 = .ok (.goto 4, 3) := by decide +kernel
theorem dX5_record_112 : decode cX5_record 112 = .ok (.iconst (-1), 1) := by decide +kernel
theorem dX5_record_113 : decode cX5_record 113 = .ok (.ireturn, 1) := by decide +kernel
theorem dX5_manyOf_0 : decode cX5_manyOf 0 = .ok (.iconst 0, 1) := by decide +kernel
theorem dX5_manyOf_1 : decode cX5_manyOf 1 = .ok (.istore_n 2, 1) := by decide +kernel
theorem dX5_manyOf_2 : decode cX5_manyOf 2 = .ok (.iconst 0, 1) := by decide +kernel
theorem dX5_manyOf_3 : decode cX5_manyOf 3 = .ok (.istore_n 3, 1) := by decide +kernel
theorem dX5_manyOf_4 : decode cX5_manyOf 4 = .ok (.iload_n 3, 1) := by decide +kernel
theorem dX5_manyOf_5 : decode cX5_manyOf 5 = .ok (.aload_n 0, 1) := by decide +kernel
theorem dX5_manyOf_6 : decode cX5_manyOf 6 = .ok (.getfield 69, 3) := by decide +kernel
theorem dX5_manyOf_9 : decode cX5_manyOf 9 = .ok (.if_icmp .ge 26, 3) := by decide +kernel
theorem dX5_manyOf_12 : decode cX5_manyOf 12 = .ok (.iload_n 2, 1) := by decide +kernel
theorem dX5_manyOf_13 : decode cX5_manyOf 13 = .ok (.aload_n 0, 1) := by decide +kernel
theorem dX5_manyOf_14 : decode cX5_manyOf 14 = .ok (.iload_n 3, 1) := by decide +kernel
theorem dX5_manyOf_15 : decode cX5_manyOf 15 = .ok (.invokevirtual 211, 3) := by decide +kernel
theorem dX5_manyOf_18 : decode cX5_manyOf 18 = .ok (.iload_n 1, 1) := by decide +kernel
theorem dX5_manyOf_19 : decode cX5_manyOf 19 = .ok (.if_icmp .ne 7, 3) := by decide +kernel
theorem dX5_manyOf_22 : decode cX5_manyOf 22 = .ok (.iconst 1, 1) := by decide +kernel
theorem dX5_manyOf_23 : decode cX5_manyOf 23 = .ok (.goto 4, 3) := by decide +kernel
theorem dX5_manyOf_26 : decode cX5_manyOf 26 = .ok (.iconst 0, 1) := by decide +kernel
theorem dX5_manyOf_27 : decode cX5_manyOf 27 = .ok (.iadd, 1) := by decide +kernel
theorem dX5_manyOf_28 : decode cX5_manyOf 28 = .ok (.istore_n 2, 1) := by decide +kernel
theorem dX5_manyOf_29 : decode cX5_manyOf 29 = .ok (.iinc 3 1, 3) := by decide +kernel
theorem dX5_manyOf_32 : decode cX5_manyOf 32 = .ok (.goto (-28), 3) := by decide +kernel
theorem dX5_manyOf_35 : decode cX5_manyOf 35 = .ok (.iload_n 2, 1) := by decide +kernel
theorem dX5_manyOf_36 : decode cX5_manyOf 36 = .ok (.ireturn, 1) := by decide +kernel
theorem dX5_look_0 : decode cX5_look 0 = .ok (.aload_n 0, 1) := by decide +kernel
theorem dX5_look_1 : decode cX5_look 1 = .ok (.iconst 0, 1) := by decide +kernel
theorem dX5_look_2 : decode cX5_look 2 = .ok (.putfield 1, 3) := by decide +kernel
theorem dX5_look_5 : decode cX5_look 5 = .ok (.iconst 0, 1) := by decide +kernel
theorem dX5_look_6 : decode cX5_look 6 = .ok (.istore_n 2, 1) := by decide +kernel
theorem dX5_look_7 : decode cX5_look 7 = .ok (.iconst 0, 1) := by decide +kernel
theorem dX5_look_8 : decode cX5_look 8 = .ok (.istore_n 3, 1) := by decide +kernel
theorem dX5_look_9 : decode cX5_look 9 = .ok (.iload_n 3, 1) := by decide +kernel
theorem dX5_look_10 : decode cX5_look 10 = .ok (.aload_n 0, 1) := by decide +kernel
theorem dX5_look_11 : decode cX5_look 11 = .ok (.getfield 69, 3) := by decide +kernel
theorem dX5_look_14 : decode cX5_look 14 = .ok (.if_icmp .ge 31, 3) := by decide +kernel
theorem dX5_look_17 : decode cX5_look 17 = .ok (.iload_n 2, 1) := by decide +kernel
theorem dX5_look_18 : decode cX5_look 18 = .ok (.aload_n 0, 1) := by decide +kernel
theorem dX5_look_19 : decode cX5_look 19 = .ok (.getfield 28, 3) := by decide +kernel
theorem dX5_look_22 : decode cX5_look 22 = .ok (.iload_n 3, 1) := by decide +kernel
theorem dX5_look_23 : decode cX5_look 23 = .ok (.baload, 1) := by decide +kernel
theorem dX5_look_24 : decode cX5_look 24 = .ok (.ifCond .eq 12, 3) := by decide +kernel
theorem dX5_look_27 : decode cX5_look 27 = .ok (.aload_n 0, 1) := by decide +kernel
theorem dX5_look_28 : decode cX5_look 28 = .ok (.getfield 35, 3) := by decide +kernel
theorem dX5_look_31 : decode cX5_look 31 = .ok (.iload_n 3, 1) := by decide +kernel
theorem dX5_look_32 : decode cX5_look 32 = .ok (.iaload, 1) := by decide +kernel
theorem dX5_look_33 : decode cX5_look 33 = .ok (.goto 4, 3) := by decide +kernel
theorem dX5_look_36 : decode cX5_look 36 = .ok (.iconst 0, 1) := by decide +kernel
theorem dX5_look_37 : decode cX5_look 37 = .ok (.iadd, 1) := by decide +kernel
theorem dX5_look_38 : decode cX5_look 38 = .ok (.istore_n 2, 1) := by decide +kernel
theorem dX5_look_39 : decode cX5_look 39 = .ok (.iinc 3 1, 3) := by decide +kernel
theorem dX5_look_42 : decode cX5_look 42 = .ok (.goto (-33), 3) := by decide +kernel
theorem dX5_look_45 : decode cX5_look 45 = .ok (.iload_n 1, 1) := by decide +kernel
theorem dX5_look_46 : decode cX5_look 46 = .ok (.tableswitch 133 0 10 #[58, 63, 68, 73, 79, 85, 87, 92, 105, 121, 126], 58) := by decide +kernel
theorem dX5_look_104 : decode cX5_look 104 = .ok (.aload_n 0, 1) := by decide +kernel
theorem dX5_look_105 : decode cX5_look 105 = .ok (.getfield 69, 3) := by decide +kernel
theorem dX5_look_108 : decode cX5_look 108 = .ok (.ireturn, 1) := by decide +kernel
theorem dX5_look_109 : decode cX5_look 109 = .ok (.aload_n 0, 1) := by decide +kernel
theorem dX5_look_110 : decode cX5_look 110 = .ok (.getfield 72, 3) := by decide +kernel
theorem dX5_look_113 : decode cX5_look 113 = .ok (.ireturn, 1) := by decide +kernel
theorem dX5_look_114 : decode cX5_look 114 = .ok (.aload_n 0, 1) := by decide +kernel
theorem dX5_look_115 : decode cX5_look 115 = .ok (.getfield 95, 3) := by decide +kernel
theorem dX5_look_118 : decode cX5_look 118 = .ok (.ireturn, 1) := by decide +kernel
theorem dX5_look_119 : decode cX5_look 119 = .ok (.aload_n 0, 1) := by decide +kernel
theorem dX5_look_120 : decode cX5_look 120 = .ok (.iconst 5, 1) := by decide +kernel
theorem dX5_look_121 : decode cX5_look 121 = .ok (.invokevirtual 214, 3) := by decide +kernel
theorem dX5_look_124 : decode cX5_look 124 = .ok (.ireturn, 1) := by decide +kernel
theorem dX5_look_125 : decode cX5_look 125 = .ok (.aload_n 0, 1) := by decide +kernel
theorem dX5_look_126 : decode cX5_look 126 = .ok (.iconst 0, 1) := by decide +kernel
theorem dX5_look_127 : decode cX5_look 127 = .ok (.invokevirtual 214, 3) := by decide +kernel
theorem dX5_look_130 : decode cX5_look 130 = .ok (.ireturn, 1) := by decide +kernel
theorem dX5_look_131 : decode cX5_look 131 = .ok (.iload_n 2, 1) := by decide +kernel
theorem dX5_look_132 : decode cX5_look 132 = .ok (.ireturn, 1) := by decide +kernel
theorem dX5_look_133 : decode cX5_look 133 = .ok (.aload_n 0, 1) := by decide +kernel
theorem dX5_look_134 : decode cX5_look 134 = .ok (.getfield 75, 3) := by decide +kernel
theorem dX5_look_137 : decode cX5_look 137 = .ok (.ireturn, 1) := by decide +kernel
theorem dX5_look_138 : decode cX5_look 138 = .ok (.aload_n 0, 1) := by decide +kernel
theorem dX5_look_139 : decode cX5_look 139 = .ok (.getfield 81, 3) := by decide +kernel
theorem dX5_look_142 : decode cX5_look 142 = .ok (.ifCond .eq 7, 3) := by decide +kernel
theorem dX5_look_145 : decode cX5_look 145 = .ok (.iconst 1, 1) := by decide +kernel
theorem dX5_look_146 : decode cX5_look 146 = .ok (.goto 4, 3) := by decide +kernel
theorem dX5_look_149 : decode cX5_look 149 = .ok (.iconst 0, 1) := by decide +kernel
theorem dX5_look_150 : decode cX5_look 150 = .ok (.ireturn, 1) := by decide +kernel
theorem dX5_look_151 : decode cX5_look 151 = .ok (.aload_n 0, 1) := by decide +kernel
theorem dX5_look_152 : decode cX5_look 152 = .ok (.getfield 81, 3) := by decide +kernel
theorem dX5_look_155 : decode cX5_look 155 = .ok (.ifCond .eq 7, 3) := by decide +kernel
theorem dX5_look_158 : decode cX5_look 158 = .ok (.iconst 0, 1) := by decide +kernel
theorem dX5_look_159 : decode cX5_look 159 = .ok (.goto 7, 3) := by decide +kernel
theorem dX5_look_162 : decode cX5_look 162 = .ok (.aload_n 0, 1) := by decide +kernel
theorem dX5_look_163 : decode cX5_look 163 = .ok (.getfield 78, 3) := by decide +kernel
theorem dX5_look_166 : decode cX5_look 166 = .ok (.ireturn, 1) := by decide +kernel
theorem dX5_look_167 : decode cX5_look 167 = .ok (.aload_n 0, 1) := by decide +kernel
theorem dX5_look_168 : decode cX5_look 168 = .ok (.getfield 172, 3) := by decide +kernel
theorem dX5_look_171 : decode cX5_look 171 = .ok (.ireturn, 1) := by decide +kernel
theorem dX5_look_172 : decode cX5_look 172 = .ok (.aload_n 0, 1) := by decide +kernel
theorem dX5_look_173 : decode cX5_look 173 = .ok (.iconst 1, 1) := by decide +kernel
theorem dX5_look_174 : decode cX5_look 174 = .ok (.iconst 0, 1) := by decide +kernel
theorem dX5_look_175 : decode cX5_look 175 = .ok (.invokevirtual 91, 3) := by decide +kernel
theorem dX5_look_178 : decode cX5_look 178 = .ok (.ireturn, 1) := by decide +kernel
theorem dX5_look_179 : decode cX5_look 179 = .ok (.iconst (-1), 1) := by decide +kernel
theorem dX5_look_180 : decode cX5_look 180 = .ok (.ireturn, 1) := by decide +kernel

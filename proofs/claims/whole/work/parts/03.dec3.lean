theorem dX6_hour_67 : decode cX6_hour 67 = .ok (.bipush 12, 2) := by decide +kernel
theorem dX6_hour_69 : decode cX6_hour 69 = .ok (.bipush 6, 2) := by decide +kernel
theorem dX6_hour_71 : decode cX6_hour 71 = .ok (.iload_n 3, 1) := by decide +kernel
theorem dX6_hour_72 : decode cX6_hour 72 = .ok (.imul, 1) := by decide +kernel
theorem dX6_hour_73 : decode cX6_hour 73 = .ok (.iadd, 1) := by decide +kernel
theorem dX6_hour_74 : decode cX6_hour 74 = .ok (.dup2, 1) := by decide +kernel
theorem dX6_hour_75 : decode cX6_hour 75 = .ok (.iaload, 1) := by decide +kernel
theorem dX6_hour_76 : decode cX6_hour 76 = .ok (.iload 5, 2) := by decide +kernel
theorem dX6_hour_78 : decode cX6_hour 78 = .ok (.isub, 1) := by decide +kernel
theorem dX6_hour_79 : decode cX6_hour 79 = .ok (.iastore, 1) := by decide +kernel
theorem dX6_hour_80 : decode cX6_hour 80 = .ok (.aload_n 1, 1) := by decide +kernel
theorem dX6_hour_81 : decode cX6_hour 81 = .ok (.bipush 12, 2) := by decide +kernel
theorem dX6_hour_83 : decode cX6_hour 83 = .ok (.bipush 6, 2) := by decide +kernel
theorem dX6_hour_85 : decode cX6_hour 85 = .ok (.iload_n 3, 1) := by decide +kernel
theorem dX6_hour_86 : decode cX6_hour 86 = .ok (.imul, 1) := by decide +kernel
theorem dX6_hour_87 : decode cX6_hour 87 = .ok (.iadd, 1) := by decide +kernel
theorem dX6_hour_88 : decode cX6_hour 88 = .ok (.iconst 4, 1) := by decide +kernel
theorem dX6_hour_89 : decode cX6_hour 89 = .ok (.iadd, 1) := by decide +kernel
theorem dX6_hour_90 : decode cX6_hour 90 = .ok (.dup2, 1) := by decide +kernel
theorem dX6_hour_91 : decode cX6_hour 91 = .ok (.iaload, 1) := by decide +kernel
theorem dX6_hour_92 : decode cX6_hour 92 = .ok (.iload 5, 2) := by decide +kernel
theorem dX6_hour_94 : decode cX6_hour 94 = .ok (.iadd, 1) := by decide +kernel
theorem dX6_hour_95 : decode cX6_hour 95 = .ok (.iastore, 1) := by decide +kernel
theorem dX6_hour_96 : decode cX6_hour 96 = .ok (.aload_n 1, 1) := by decide +kernel
theorem dX6_hour_97 : decode cX6_hour 97 = .ok (.bipush 12, 2) := by decide +kernel
theorem dX6_hour_99 : decode cX6_hour 99 = .ok (.bipush 6, 2) := by decide +kernel
theorem dX6_hour_101 : decode cX6_hour 101 = .ok (.iload_n 3, 1) := by decide +kernel
theorem dX6_hour_102 : decode cX6_hour 102 = .ok (.imul, 1) := by decide +kernel
theorem dX6_hour_103 : decode cX6_hour 103 = .ok (.iadd, 1) := by decide +kernel
theorem dX6_hour_104 : decode cX6_hour 104 = .ok (.iconst 5, 1) := by decide +kernel
theorem dX6_hour_105 : decode cX6_hour 105 = .ok (.iadd, 1) := by decide +kernel
theorem dX6_hour_106 : decode cX6_hour 106 = .ok (.dup2, 1) := by decide +kernel
theorem dX6_hour_107 : decode cX6_hour 107 = .ok (.iaload, 1) := by decide +kernel
theorem dX6_hour_108 : decode cX6_hour 108 = .ok (.iconst 1, 1) := by decide +kernel
theorem dX6_hour_109 : decode cX6_hour 109 = .ok (.iadd, 1) := by decide +kernel
theorem dX6_hour_110 : decode cX6_hour 110 = .ok (.iastore, 1) := by decide +kernel
theorem dX6_hour_111 : decode cX6_hour 111 = .ok (.iload_n 2, 1) := by decide +kernel
theorem dX6_hour_112 : decode cX6_hour 112 = .ok (.aload_n 1, 1) := by decide +kernel
theorem dX6_hour_113 : decode cX6_hour 113 = .ok (.iload_n 3, 1) := by decide +kernel
theorem dX6_hour_114 : decode cX6_hour 114 = .ok (.iconst 0, 1) := by decide +kernel
theorem dX6_hour_115 : decode cX6_hour 115 = .ok (.invokestatic 47, 3) := by decide +kernel
theorem dX6_hour_118 : decode cX6_hour 118 = .ok (.ifCond .ne 9, 3) := by decide +kernel
theorem dX6_hour_121 : decode cX6_hour 121 = .ok (.iconst 1, 1) := by decide +kernel
theorem dX6_hour_122 : decode cX6_hour 122 = .ok (.iload_n 3, 1) := by decide +kernel
theorem dX6_hour_123 : decode cX6_hour 123 = .ok (.ishl, 1) := by decide +kernel
theorem dX6_hour_124 : decode cX6_hour 124 = .ok (.goto 4, 3) := by decide +kernel
theorem dX6_hour_127 : decode cX6_hour 127 = .ok (.iconst 0, 1) := by decide +kernel
theorem dX6_hour_128 : decode cX6_hour 128 = .ok (.ior, 1) := by decide +kernel
theorem dX6_hour_129 : decode cX6_hour 129 = .ok (.istore_n 2, 1) := by decide +kernel
theorem dX6_hour_130 : decode cX6_hour 130 = .ok (.iinc 3 1, 3) := by decide +kernel
theorem dX6_hour_133 : decode cX6_hour 133 = .ok (.goto (-124), 3) := by decide +kernel
theorem dX6_hour_136 : decode cX6_hour 136 = .ok (.bipush 10, 2) := by decide +kernel
theorem dX6_hour_138 : decode cX6_hour 138 = .ok (.istore_n 3, 1) := by decide +kernel
theorem dX6_hour_139 : decode cX6_hour 139 = .ok (.iload_n 3, 1) := by decide +kernel
theorem dX6_hour_140 : decode cX6_hour 140 = .ok (.ifCond .lt 65, 3) := by decide +kernel
theorem dX6_hour_143 : decode cX6_hour 143 = .ok (.aload_n 0, 1) := by decide +kernel
theorem dX6_hour_144 : decode cX6_hour 144 = .ok (.getfield 54, 3) := by decide +kernel
theorem dX6_hour_147 : decode cX6_hour 147 = .ok (.iload_n 3, 1) := by decide +kernel
theorem dX6_hour_148 : decode cX6_hour 148 = .ok (.ishr, 1) := by decide +kernel
theorem dX6_hour_149 : decode cX6_hour 149 = .ok (.iconst 1, 1) := by decide +kernel
theorem dX6_hour_150 : decode cX6_hour 150 = .ok (.iand, 1) := by decide +kernel
theorem dX6_hour_151 : decode cX6_hour 151 = .ok (.ifCond .ne 48, 3) := by decide +kernel
theorem dX6_hour_154 : decode cX6_hour 154 = .ok (.aload_n 1, 1) := by decide +kernel
theorem dX6_hour_155 : decode cX6_hour 155 = .ok (.iload_n 3, 1) := by decide +kernel
theorem dX6_hour_156 : decode cX6_hour 156 = .ok (.iconst 1, 1) := by decide +kernel
theorem dX6_hour_157 : decode cX6_hour 157 = .ok (.iadd, 1) := by decide +kernel
theorem dX6_hour_158 : decode cX6_hour 158 = .ok (.invokestatic 61, 3) := by decide +kernel
theorem dX6_hour_161 : decode cX6_hour 161 = .ok (.iload_n 3, 1) := by decide +kernel
theorem dX6_hour_162 : decode cX6_hour 162 = .ok (.if_icmp .ne 37, 3) := by decide +kernel
theorem dX6_hour_165 : decode cX6_hour 165 = .ok (.aload_n 1, 1) := by decide +kernel
theorem dX6_hour_166 : decode cX6_hour 166 = .ok (.iload_n 3, 1) := by decide +kernel
theorem dX6_hour_167 : decode cX6_hour 167 = .ok (.iconst 0, 1) := by decide +kernel
theorem dX6_hour_168 : decode cX6_hour 168 = .ok (.invokestatic 47, 3) := by decide +kernel
theorem dX6_hour_171 : decode cX6_hour 171 = .ok (.bipush 10, 2) := by decide +kernel
theorem dX6_hour_173 : decode cX6_hour 173 = .ok (.idiv, 1) := by decide +kernel
theorem dX6_hour_174 : decode cX6_hour 174 = .ok (.istore 4, 2) := by decide +kernel
theorem dX6_hour_176 : decode cX6_hour 176 = .ok (.aload_n 1, 1) := by decide +kernel
theorem dX6_hour_177 : decode cX6_hour 177 = .ok (.bipush 12, 2) := by decide +kernel
theorem dX6_hour_179 : decode cX6_hour 179 = .ok (.bipush 6, 2) := by decide +kernel
theorem dX6_hour_181 : decode cX6_hour 181 = .ok (.iload_n 3, 1) := by decide +kernel
theorem dX6_hour_182 : decode cX6_hour 182 = .ok (.imul, 1) := by decide +kernel
theorem dX6_hour_183 : decode cX6_hour 183 = .ok (.iadd, 1) := by decide +kernel
theorem dX6_hour_184 : decode cX6_hour 184 = .ok (.dup2, 1) := by decide +kernel
theorem dX6_hour_185 : decode cX6_hour 185 = .ok (.iaload, 1) := by decide +kernel
theorem dX6_hour_186 : decode cX6_hour 186 = .ok (.iload 4, 2) := by decide +kernel
theorem dX6_hour_188 : decode cX6_hour 188 = .ok (.isub, 1) := by decide +kernel
theorem dX6_hour_189 : decode cX6_hour 189 = .ok (.iastore, 1) := by decide +kernel
theorem dX6_hour_190 : decode cX6_hour 190 = .ok (.aload_n 1, 1) := by decide +kernel
theorem dX6_hour_191 : decode cX6_hour 191 = .ok (.iload_n 3, 1) := by decide +kernel
theorem dX6_hour_192 : decode cX6_hour 192 = .ok (.iconst 1, 1) := by decide +kernel
theorem dX6_hour_193 : decode cX6_hour 193 = .ok (.iadd, 1) := by decide +kernel
theorem dX6_hour_194 : decode cX6_hour 194 = .ok (.iload 4, 2) := by decide +kernel
theorem dX6_hour_196 : decode cX6_hour 196 = .ok (.invokestatic 75, 3) := by decide +kernel
theorem dX6_hour_199 : decode cX6_hour 199 = .ok (.iinc 3 (-1), 3) := by decide +kernel
theorem dX6_hour_202 : decode cX6_hour 202 = .ok (.goto (-63), 3) := by decide +kernel
theorem dX6_hour_205 : decode cX6_hour 205 = .ok (.iconst 0, 1) := by decide +kernel
theorem dX6_hour_206 : decode cX6_hour 206 = .ok (.istore_n 3, 1) := by decide +kernel
theorem dX6_hour_207 : decode cX6_hour 207 = .ok (.iload_n 3, 1) := by decide +kernel
theorem dX6_hour_208 : decode cX6_hour 208 = .ok (.bipush 12, 2) := by decide +kernel
theorem dX6_hour_210 : decode cX6_hour 210 = .ok (.if_icmp .ge 75, 3) := by decide +kernel
theorem dX6_hour_213 : decode cX6_hour 213 = .ok (.aload_n 1, 1) := by decide +kernel
theorem dX6_hour_214 : decode cX6_hour 214 = .ok (.iload_n 3, 1) := by decide +kernel
theorem dX6_hour_215 : decode cX6_hour 215 = .ok (.aload_n 1, 1) := by decide +kernel
theorem dX6_hour_216 : decode cX6_hour 216 = .ok (.iconst 3, 1) := by decide +kernel
theorem dX6_hour_217 : decode cX6_hour 217 = .ok (.iaload, 1) := by decide +kernel
theorem dX6_hour_218 : decode cX6_hour 218 = .ok (.invokestatic 75, 3) := by decide +kernel
theorem dX6_hour_221 : decode cX6_hour 221 = .ok (.bipush 12, 2) := by decide +kernel
theorem dX6_hour_223 : decode cX6_hour 223 = .ok (.bipush 6, 2) := by decide +kernel
theorem dX6_hour_225 : decode cX6_hour 225 = .ok (.iload_n 3, 1) := by decide +kernel
theorem dX6_hour_226 : decode cX6_hour 226 = .ok (.imul, 1) := by decide +kernel
theorem dX6_hour_227 : decode cX6_hour 227 = .ok (.iadd, 1) := by decide +kernel
theorem dX6_hour_228 : decode cX6_hour 228 = .ok (.istore 4, 2) := by decide +kernel
theorem dX6_hour_230 : decode cX6_hour 230 = .ok (.aload_n 1, 1) := by decide +kernel
theorem dX6_hour_231 : decode cX6_hour 231 = .ok (.iload_n 3, 1) := by decide +kernel
theorem dX6_hour_232 : decode cX6_hour 232 = .ok (.invokestatic 67, 3) := by decide +kernel
theorem dX6_hour_235 : decode cX6_hour 235 = .ok (.ifCond .eq 7, 3) := by decide +kernel
theorem dX6_hour_238 : decode cX6_hour 238 = .ok (.iconst 1, 1) := by decide +kernel
theorem dX6_hour_239 : decode cX6_hour 239 = .ok (.goto 4, 3) := by decide +kernel
theorem dX6_hour_242 : decode cX6_hour 242 = .ok (.iconst 0, 1) := by decide +kernel
theorem dX6_hour_243 : decode cX6_hour 243 = .ok (.istore 5, 2) := by decide +kernel
theorem dX6_hour_245 : decode cX6_hour 245 = .ok (.aload_n 1, 1) := by decide +kernel
theorem dX6_hour_246 : decode cX6_hour 246 = .ok (.iload 4, 2) := by decide +kernel
theorem dX6_hour_248 : decode cX6_hour 248 = .ok (.iconst 3, 1) := by decide +kernel
theorem dX6_hour_249 : decode cX6_hour 249 = .ok (.iadd, 1) := by decide +kernel
theorem dX6_hour_250 : decode cX6_hour 250 = .ok (.dup2, 1) := by decide +kernel
theorem dX6_hour_251 : decode cX6_hour 251 = .ok (.iaload, 1) := by decide +kernel
theorem dX6_hour_252 : decode cX6_hour 252 = .ok (.iload 5, 2) := by decide +kernel
theorem dX6_hour_254 : decode cX6_hour 254 = .ok (.ifCond .ne 7, 3) := by decide +kernel
theorem dX6_hour_257 : decode cX6_hour 257 = .ok (.iconst 0, 1) := by decide +kernel
theorem dX6_hour_258 : decode cX6_hour 258 = .ok (.goto 11, 3) := by decide +kernel
theorem dX6_hour_261 : decode cX6_hour 261 = .ok (.iconst 1, 1) := by decide +kernel
theorem dX6_hour_262 : decode cX6_hour 262 = .ok (.aload_n 1, 1) := by decide +kernel
theorem dX6_hour_263 : decode cX6_hour 263 = .ok (.iload 4, 2) := by decide +kernel
theorem dX6_hour_265 : decode cX6_hour 265 = .ok (.iconst 2, 1) := by decide +kernel
theorem dX6_hour_266 : decode cX6_hour 266 = .ok (.iadd, 1) := by decide +kernel
theorem dX6_hour_267 : decode cX6_hour 267 = .ok (.iaload, 1) := by decide +kernel
theorem dX6_hour_268 : decode cX6_hour 268 = .ok (.iadd, 1) := by decide +kernel
theorem dX6_hour_269 : decode cX6_hour 269 = .ok (.iadd, 1) := by decide +kernel
theorem dX6_hour_270 : decode cX6_hour 270 = .ok (.iastore, 1) := by decide +kernel
theorem dX6_hour_271 : decode cX6_hour 271 = .ok (.aload_n 1, 1) := by decide +kernel
theorem dX6_hour_272 : decode cX6_hour 272 = .ok (.iload 4, 2) := by decide +kernel
theorem dX6_hour_274 : decode cX6_hour 274 = .ok (.iconst 2, 1) := by decide +kernel
theorem dX6_hour_275 : decode cX6_hour 275 = .ok (.iadd, 1) := by decide +kernel
theorem dX6_hour_276 : decode cX6_hour 276 = .ok (.iload 5, 2) := by decide +kernel
theorem dX6_hour_278 : decode cX6_hour 278 = .ok (.iastore, 1) := by decide +kernel
theorem dX6_hour_279 : decode cX6_hour 279 = .ok (.iinc 3 1, 3) := by decide +kernel
theorem dX6_hour_282 : decode cX6_hour 282 = .ok (.goto (-75), 3) := by decide +kernel
theorem dX6_hour_285 : decode cX6_hour 285 = .ok (.iconst 0, 1) := by decide +kernel
theorem dX6_hour_286 : decode cX6_hour 286 = .ok (.istore_n 3, 1) := by decide +kernel
theorem dX6_hour_287 : decode cX6_hour 287 = .ok (.iload_n 3, 1) := by decide +kernel
theorem dX6_hour_288 : decode cX6_hour 288 = .ok (.iconst 3, 1) := by decide +kernel
theorem dX6_hour_289 : decode cX6_hour 289 = .ok (.if_icmp .ge 57, 3) := by decide +kernel
theorem dX6_hour_292 : decode cX6_hour 292 = .ok (.aload_n 1, 1) := by decide +kernel
theorem dX6_hour_293 : decode cX6_hour 293 = .ok (.bipush 10, 2) := by decide +kernel
theorem dX6_hour_295 : decode cX6_hour 295 = .ok (.dup2, 1) := by decide +kernel
theorem dX6_hour_296 : decode cX6_hour 296 = .ok (.iaload, 1) := by decide +kernel
theorem dX6_hour_297 : decode cX6_hour 297 = .ok (.aload_n 0, 1) := by decide +kernel
theorem dX6_hour_298 : decode cX6_hour 298 = .ok (.getfield 25, 3) := by decide +kernel
theorem dX6_hour_301 : decode cX6_hour 301 = .ok (.iload_n 3, 1) := by decide +kernel
theorem dX6_hour_302 : decode cX6_hour 302 = .ok (.iaload, 1) := by decide +kernel
theorem dX6_hour_303 : decode cX6_hour 303 = .ok (.ifCond .le 7, 3) := by decide +kernel
theorem dX6_hour_306 : decode cX6_hour 306 = .ok (.iconst 1, 1) := by decide +kernel
theorem dX6_hour_307 : decode cX6_hour 307 = .ok (.goto 4, 3) := by decide +kernel
theorem dX6_hour_310 : decode cX6_hour 310 = .ok (.iconst 0, 1) := by decide +kernel
theorem dX6_hour_311 : decode cX6_hour 311 = .ok (.iadd, 1) := by decide +kernel
theorem dX6_hour_312 : decode cX6_hour 312 = .ok (.iastore, 1) := by decide +kernel
theorem dX6_hour_313 : decode cX6_hour 313 = .ok (.aload_n 0, 1) := by decide +kernel
theorem dX6_hour_314 : decode cX6_hour 314 = .ok (.getfield 25, 3) := by decide +kernel
theorem dX6_hour_317 : decode cX6_hour 317 = .ok (.iload_n 3, 1) := by decide +kernel
theorem dX6_hour_318 : decode cX6_hour 318 = .ok (.iaload, 1) := by decide +kernel
theorem dX6_hour_319 : decode cX6_hour 319 = .ok (.ifCond .ne 21, 3) := by decide +kernel
theorem dX6_hour_322 : decode cX6_hour 322 = .ok (.iload_n 2, 1) := by decide +kernel
theorem dX6_hour_323 : decode cX6_hour 323 = .ok (.aload_n 1, 1) := by decide +kernel
theorem dX6_hour_324 : decode cX6_hour 324 = .ok (.iload_n 3, 1) := by decide +kernel
theorem dX6_hour_325 : decode cX6_hour 325 = .ok (.invokestatic 57, 3) := by decide +kernel
theorem dX6_hour_328 : decode cX6_hour 328 = .ok (.ishr, 1) := by decide +kernel
theorem dX6_hour_329 : decode cX6_hour 329 = .ok (.iconst 1, 1) := by decide +kernel
theorem dX6_hour_330 : decode cX6_hour 330 = .ok (.iand, 1) := by decide +kernel
theorem dX6_hour_331 : decode cX6_hour 331 = .ok (.iconst 1, 1) := by decide +kernel
theorem dX6_hour_332 : decode cX6_hour 332 = .ok (.if_icmp .ne 8, 3) := by decide +kernel
theorem dX6_hour_335 : decode cX6_hour 335 = .ok (.aload_n 1, 1) := by decide +kernel
theorem dX6_hour_336 : decode cX6_hour 336 = .ok (.iload_n 3, 1) := by decide +kernel
theorem dX6_hour_337 : decode cX6_hour 337 = .ok (.invokestatic 79, 3) := by decide +kernel
theorem dX6_hour_340 : decode cX6_hour 340 = .ok (.iinc 3 1, 3) := by decide +kernel
theorem dX6_hour_343 : decode cX6_hour 343 = .ok (.goto (-56), 3) := by decide +kernel
theorem dX6_hour_346 : decode cX6_hour 346 = .ok (.aload_n 1, 1) := by decide +kernel
theorem dX6_hour_347 : decode cX6_hour 347 = .ok (.bipush 9, 2) := by decide +kernel
theorem dX6_hour_349 : decode cX6_hour 349 = .ok (.dup2, 1) := by decide +kernel
theorem dX6_hour_350 : decode cX6_hour 350 = .ok (.iaload, 1) := by decide +kernel
theorem dX6_hour_351 : decode cX6_hour 351 = .ok (.iconst 1, 1) := by decide +kernel
theorem dX6_hour_352 : decode cX6_hour 352 = .ok (.iadd, 1) := by decide +kernel
theorem dX6_hour_353 : decode cX6_hour 353 = .ok (.iastore, 1) := by decide +kernel
theorem dX6_hour_354 : decode cX6_hour 354 = .ok (.return_, 1) := by decide +kernel
theorem dX6_sum_0 : decode cX6_sum 0 = .ok (.iconst 0, 1) := by decide +kernel
theorem dX6_sum_1 : decode cX6_sum 1 = .ok (.istore_n 2, 1) := by decide +kernel
theorem dX6_sum_2 : decode cX6_sum 2 = .ok (.iconst 0, 1) := by decide +kernel
theorem dX6_sum_3 : decode cX6_sum 3 = .ok (.istore_n 3, 1) := by decide +kernel
theorem dX6_sum_4 : decode cX6_sum 4 = .ok (.iload_n 3, 1) := by decide +kernel
theorem dX6_sum_5 : decode cX6_sum 5 = .ok (.bipush 12, 2) := by decide +kernel
theorem dX6_sum_7 : decode cX6_sum 7 = .ok (.if_icmp .ge 18, 3) := by decide +kernel
theorem dX6_sum_10 : decode cX6_sum 10 = .ok (.iload_n 2, 1) := by decide +kernel
theorem dX6_sum_11 : decode cX6_sum 11 = .ok (.aload_n 0, 1) := by decide +kernel
theorem dX6_sum_12 : decode cX6_sum 12 = .ok (.iload_n 3, 1) := by decide +kernel
theorem dX6_sum_13 : decode cX6_sum 13 = .ok (.iload_n 1, 1) := by decide +kernel
theorem dX6_sum_14 : decode cX6_sum 14 = .ok (.invokestatic 47, 3) := by decide +kernel
theorem dX6_sum_17 : decode cX6_sum 17 = .ok (.iadd, 1) := by decide +kernel
theorem dX6_sum_18 : decode cX6_sum 18 = .ok (.istore_n 2, 1) := by decide +kernel
theorem dX6_sum_19 : decode cX6_sum 19 = .ok (.iinc 3 1, 3) := by decide +kernel
theorem dX6_sum_22 : decode cX6_sum 22 = .ok (.goto (-18), 3) := by decide +kernel
theorem dX6_sum_25 : decode cX6_sum 25 = .ok (.iload_n 2, 1) := by decide +kernel
theorem dX6_sum_26 : decode cX6_sum 26 = .ok (.ireturn, 1) := by decide +kernel
theorem dX6_brown_0 : decode cX6_brown 0 = .ok (.iconst 0, 1) := by decide +kernel
theorem dX6_brown_1 : decode cX6_brown 1 = .ok (.istore_n 1, 1) := by decide +kernel
theorem dX6_brown_2 : decode cX6_brown 2 = .ok (.iconst 0, 1) := by decide +kernel
theorem dX6_brown_3 : decode cX6_brown 3 = .ok (.istore_n 2, 1) := by decide +kernel
theorem dX6_brown_4 : decode cX6_brown 4 = .ok (.iload_n 2, 1) := by decide +kernel
theorem dX6_brown_5 : decode cX6_brown 5 = .ok (.bipush 12, 2) := by decide +kernel
theorem dX6_brown_7 : decode cX6_brown 7 = .ok (.if_icmp .ge 25, 3) := by decide +kernel
theorem dX6_brown_10 : decode cX6_brown 10 = .ok (.iload_n 1, 1) := by decide +kernel
theorem dX6_brown_11 : decode cX6_brown 11 = .ok (.aload_n 0, 1) := by decide +kernel
theorem dX6_brown_12 : decode cX6_brown 12 = .ok (.iload_n 2, 1) := by decide +kernel
theorem dX6_brown_13 : decode cX6_brown 13 = .ok (.invokestatic 67, 3) := by decide +kernel
theorem dX6_brown_16 : decode cX6_brown 16 = .ok (.ifCond .eq 7, 3) := by decide +kernel
theorem dX6_brown_19 : decode cX6_brown 19 = .ok (.iconst 1, 1) := by decide +kernel
theorem dX6_brown_20 : decode cX6_brown 20 = .ok (.goto 4, 3) := by decide +kernel
theorem dX6_brown_23 : decode cX6_brown 23 = .ok (.iconst 0, 1) := by decide +kernel
theorem dX6_brown_24 : decode cX6_brown 24 = .ok (.iadd, 1) := by decide +kernel
theorem dX6_brown_25 : decode cX6_brown 25 = .ok (.istore_n 1, 1) := by decide +kernel
theorem dX6_brown_26 : decode cX6_brown 26 = .ok (.iinc 2 1, 3) := by decide +kernel
theorem dX6_brown_29 : decode cX6_brown 29 = .ok (.goto (-25), 3) := by decide +kernel
theorem dX6_brown_32 : decode cX6_brown 32 = .ok (.iload_n 1, 1) := by decide +kernel
theorem dX6_brown_33 : decode cX6_brown 33 = .ok (.ireturn, 1) := by decide +kernel
theorem dX6_inRounds_0 : decode cX6_inRounds 0 = .ok (.aload_n 0, 1) := by decide +kernel
theorem dX6_inRounds_1 : decode cX6_inRounds 1 = .ok (.bipush 84, 2) := by decide +kernel
theorem dX6_inRounds_3 : decode cX6_inRounds 3 = .ok (.iaload, 1) := by decide +kernel
theorem dX6_inRounds_4 : decode cX6_inRounds 4 = .ok (.aload_n 0, 1) := by decide +kernel
theorem dX6_inRounds_5 : decode cX6_inRounds 5 = .ok (.bipush 93, 2) := by decide +kernel
theorem dX6_inRounds_7 : decode cX6_inRounds 7 = .ok (.iaload, 1) := by decide +kernel
theorem dX6_inRounds_8 : decode cX6_inRounds 8 = .ok (.iadd, 1) := by decide +kernel
theorem dX6_inRounds_9 : decode cX6_inRounds 9 = .ok (.aload_n 0, 1) := by decide +kernel
theorem dX6_inRounds_10 : decode cX6_inRounds 10 = .ok (.bipush 102, 2) := by decide +kernel
theorem dX6_inRounds_12 : decode cX6_inRounds 12 = .ok (.iaload, 1) := by decide +kernel
theorem dX6_inRounds_13 : decode cX6_inRounds 13 = .ok (.iadd, 1) := by decide +kernel
theorem dX6_inRounds_14 : decode cX6_inRounds 14 = .ok (.ireturn, 1) := by decide +kernel
theorem dX6_changes_0 : decode cX6_changes 0 = .ok (.aload_n 0, 1) := by decide +kernel
theorem dX6_changes_1 : decode cX6_changes 1 = .ok (.getfield 7, 3) := by decide +kernel
theorem dX6_changes_4 : decode cX6_changes 4 = .ok (.iload_n 1, 1) := by decide +kernel
theorem dX6_changes_5 : decode cX6_changes 5 = .ok (.iaload, 1) := by decide +kernel
theorem dX6_changes_6 : decode cX6_changes 6 = .ok (.istore_n 3, 1) := by decide +kernel
theorem dX6_changes_7 : decode cX6_changes 7 = .ok (.aload_n 0, 1) := by decide +kernel
theorem dX6_changes_8 : decode cX6_changes 8 = .ok (.getfield 7, 3) := by decide +kernel
theorem dX6_changes_11 : decode cX6_changes 11 = .ok (.iload_n 1, 1) := by decide +kernel
theorem dX6_changes_12 : decode cX6_changes 12 = .ok (.iload_n 2, 1) := by decide +kernel
theorem dX6_changes_13 : decode cX6_changes 13 = .ok (.iastore, 1) := by decide +kernel
theorem dX6_changes_14 : decode cX6_changes 14 = .ok (.iload_n 3, 1) := by decide +kernel
theorem dX6_changes_15 : decode cX6_changes 15 = .ok (.ireturn, 1) := by decide +kernel
theorem dX6_pressure_0 : decode cX6_pressure 0 = .ok (.aload_n 0, 1) := by decide +kernel
theorem dX6_pressure_1 : decode cX6_pressure 1 = .ok (.iconst 0, 1) := by decide +kernel
theorem dX6_pressure_2 : decode cX6_pressure 2 = .ok (.putfield 28, 3) := by decide +kernel
theorem dX6_pressure_5 : decode cX6_pressure 5 = .ok (.iload_n 1, 1) := by decide +kernel
theorem dX6_pressure_6 : decode cX6_pressure 6 = .ok (.iconst 0, 1) := by decide +kernel
theorem dX6_pressure_7 : decode cX6_pressure 7 = .ok (.iconst 2, 1) := by decide +kernel
theorem dX6_pressure_8 : decode cX6_pressure 8 = .ok (.invokestatic 32, 3) := by decide +kernel
theorem dX6_pressure_11 : decode cX6_pressure 11 = .ok (.ifCond .ne 9, 3) := by decide +kernel
theorem dX6_pressure_14 : decode cX6_pressure 14 = .ok (.aload_n 0, 1) := by decide +kernel
theorem dX6_pressure_15 : decode cX6_pressure 15 = .ok (.iconst 1, 1) := by decide +kernel
theorem dX6_pressure_16 : decode cX6_pressure 16 = .ok (.invokevirtual 43, 3) := by decide +kernel
theorem dX6_pressure_19 : decode cX6_pressure 19 = .ok (.ireturn, 1) := by decide +kernel
theorem dX6_pressure_20 : decode cX6_pressure 20 = .ok (.iload_n 2, 1) := by decide +kernel
theorem dX6_pressure_21 : decode cX6_pressure 21 = .ok (.iconst 0, 1) := by decide +kernel
theorem dX6_pressure_22 : decode cX6_pressure 22 = .ok (.bipush 99, 2) := by decide +kernel
theorem dX6_pressure_24 : decode cX6_pressure 24 = .ok (.invokestatic 32, 3) := by decide +kernel
theorem dX6_pressure_27 : decode cX6_pressure 27 = .ok (.ifCond .ne 9, 3) := by decide +kernel
theorem dX6_pressure_30 : decode cX6_pressure 30 = .ok (.aload_n 0, 1) := by decide +kernel
theorem dX6_pressure_31 : decode cX6_pressure 31 = .ok (.iconst 2, 1) := by decide +kernel
theorem dX6_pressure_32 : decode cX6_pressure 32 = .ok (.invokevirtual 43, 3) := by decide +kernel
theorem dX6_pressure_35 : decode cX6_pressure 35 = .ok (.ireturn, 1) := by decide +kernel
theorem dX6_pressure_36 : decode cX6_pressure 36 = .ok (.aload_n 0, 1) := by decide +kernel
theorem dX6_pressure_37 : decode cX6_pressure 37 = .ok (.invokevirtual 83, 3) := by decide +kernel
theorem dX6_pressure_40 : decode cX6_pressure 40 = .ok (.aload_n 0, 1) := by decide +kernel
theorem dX6_pressure_41 : decode cX6_pressure 41 = .ok (.iconst 4, 1) := by decide +kernel
theorem dX6_pressure_42 : decode cX6_pressure 42 = .ok (.iload_n 1, 1) := by decide +kernel
theorem dX6_pressure_43 : decode cX6_pressure 43 = .ok (.iadd, 1) := by decide +kernel
theorem dX6_pressure_44 : decode cX6_pressure 44 = .ok (.iload_n 2, 1) := by decide +kernel
theorem dX6_pressure_45 : decode cX6_pressure 45 = .ok (.invokevirtual 86, 3) := by decide +kernel
theorem dX6_pressure_48 : decode cX6_pressure 48 = .ok (.ireturn, 1) := by decide +kernel
theorem dX6_valve_0 : decode cX6_valve 0 = .ok (.aload_n 0, 1) := by decide +kernel
theorem dX6_valve_1 : decode cX6_valve 1 = .ok (.iconst 0, 1) := by decide +kernel
theorem dX6_valve_2 : decode cX6_valve 2 = .ok (.putfield 28, 3) := by decide +kernel
theorem dX6_valve_5 : decode cX6_valve 5 = .ok (.iload_n 1, 1) := by decide +kernel
theorem dX6_valve_6 : decode cX6_valve 6 = .ok (.iconst 0, 1) := by decide +kernel
theorem dX6_valve_7 : decode cX6_valve 7 = .ok (.iconst 1, 1) := by decide +kernel
theorem dX6_valve_8 : decode cX6_valve 8 = .ok (.invokestatic 32, 3) := by decide +kernel
theorem dX6_valve_11 : decode cX6_valve 11 = .ok (.ifCond .ne 9, 3) := by decide +kernel
theorem dX6_valve_14 : decode cX6_valve 14 = .ok (.aload_n 0, 1) := by decide +kernel
theorem dX6_valve_15 : decode cX6_valve 15 = .ok (.iconst 1, 1) := by decide +kernel
theorem dX6_valve_16 : decode cX6_valve 16 = .ok (.invokevirtual 43, 3) := by decide +kernel
theorem dX6_valve_19 : decode cX6_valve 19 = .ok (.ireturn, 1) := by decide +kernel
theorem dX6_valve_20 : decode cX6_valve 20 = .ok (.aload_n 0, 1) := by decide +kernel
theorem dX6_valve_21 : decode cX6_valve 21 = .ok (.invokevirtual 83, 3) := by decide +kernel
theorem dX6_valve_24 : decode cX6_valve 24 = .ok (.aload_n 0, 1) := by decide +kernel
theorem dX6_valve_25 : decode cX6_valve 25 = .ok (.bipush 7, 2) := by decide +kernel
theorem dX6_valve_27 : decode cX6_valve 27 = .ok (.iload_n 1, 1) := by decide +kernel
theorem dX6_valve_28 : decode cX6_valve 28 = .ok (.iadd, 1) := by decide +kernel
theorem dX6_valve_29 : decode cX6_valve 29 = .ok (.iload_n 2, 1) := by decide +kernel
theorem dX6_valve_30 : decode cX6_valve 30 = .ok (.ifCond .eq 7, 3) := by decide +kernel
theorem dX6_valve_33 : decode cX6_valve 33 = .ok (.iconst 1, 1) := by decide +kernel
theorem dX6_valve_34 : decode cX6_valve 34 = .ok (.goto 4, 3) := by decide +kernel
theorem dX6_valve_37 : decode cX6_valve 37 = .ok (.iconst 0, 1) := by decide +kernel
theorem dX6_valve_38 : decode cX6_valve 38 = .ok (.invokevirtual 86, 3) := by decide +kernel
theorem dX6_valve_41 : decode cX6_valve 41 = .ok (.ireturn, 1) := by decide +kernel
theorem dX6_dirt_0 : decode cX6_dirt 0 = .ok (.aload_n 0, 1) := by decide +kernel
theorem dX6_dirt_1 : decode cX6_dirt 1 = .ok (.iconst 0, 1) := by decide +kernel
theorem dX6_dirt_2 : decode cX6_dirt 2 = .ok (.putfield 28, 3) := by decide +kernel
theorem dX6_dirt_5 : decode cX6_dirt 5 = .ok (.iload_n 1, 1) := by decide +kernel
theorem dX6_dirt_6 : decode cX6_dirt 6 = .ok (.invokestatic 90, 3) := by decide +kernel
theorem dX6_dirt_9 : decode cX6_dirt 9 = .ok (.ifCond .ne 9, 3) := by decide +kernel
theorem dX6_dirt_12 : decode cX6_dirt 12 = .ok (.aload_n 0, 1) := by decide +kernel
theorem dX6_dirt_13 : decode cX6_dirt 13 = .ok (.iconst 1, 1) := by decide +kernel
theorem dX6_dirt_14 : decode cX6_dirt 14 = .ok (.invokevirtual 43, 3) := by decide +kernel
theorem dX6_dirt_17 : decode cX6_dirt 17 = .ok (.ireturn, 1) := by decide +kernel
theorem dX6_dirt_18 : decode cX6_dirt 18 = .ok (.iload_n 2, 1) := by decide +kernel
theorem dX6_dirt_19 : decode cX6_dirt 19 = .ok (.iconst 0, 1) := by decide +kernel
theorem dX6_dirt_20 : decode cX6_dirt 20 = .ok (.sipush 999, 3) := by decide +kernel
theorem dX6_dirt_23 : decode cX6_dirt 23 = .ok (.invokestatic 32, 3) := by decide +kernel
theorem dX6_dirt_26 : decode cX6_dirt 26 = .ok (.ifCond .ne 9, 3) := by decide +kernel
theorem dX6_dirt_29 : decode cX6_dirt 29 = .ok (.aload_n 0, 1) := by decide +kernel
theorem dX6_dirt_30 : decode cX6_dirt 30 = .ok (.iconst 2, 1) := by decide +kernel
theorem dX6_dirt_31 : decode cX6_dirt 31 = .ok (.invokevirtual 43, 3) := by decide +kernel
theorem dX6_dirt_34 : decode cX6_dirt 34 = .ok (.ireturn, 1) := by decide +kernel
theorem dX6_dirt_35 : decode cX6_dirt 35 = .ok (.aload_n 0, 1) := by decide +kernel
theorem dX6_dirt_36 : decode cX6_dirt 36 = .ok (.invokevirtual 83, 3) := by decide +kernel
theorem dX6_dirt_39 : decode cX6_dirt 39 = .ok (.aload_n 0, 1) := by decide +kernel
theorem dX6_dirt_40 : decode cX6_dirt 40 = .ok (.bipush 12, 2) := by decide +kernel
theorem dX6_dirt_42 : decode cX6_dirt 42 = .ok (.bipush 6, 2) := by decide +kernel
theorem dX6_dirt_44 : decode cX6_dirt 44 = .ok (.iload_n 1, 1) := by decide +kernel
theorem dX6_dirt_45 : decode cX6_dirt 45 = .ok (.imul, 1) := by decide +kernel
theorem dX6_dirt_46 : decode cX6_dirt 46 = .ok (.iadd, 1) := by decide +kernel
theorem dX6_dirt_47 : decode cX6_dirt 47 = .ok (.iload_n 2, 1) := by decide +kernel
theorem dX6_dirt_48 : decode cX6_dirt 48 = .ok (.invokevirtual 86, 3) := by decide +kernel
theorem dX6_dirt_51 : decode cX6_dirt 51 = .ok (.ireturn, 1) := by decide +kernel
theorem dX6_hydrant_0 : decode cX6_hydrant 0 = .ok (.aload_n 0, 1) := by decide +kernel
theorem dX6_hydrant_1 : decode cX6_hydrant 1 = .ok (.iconst 0, 1) := by decide +kernel
theorem dX6_hydrant_2 : decode cX6_hydrant 2 = .ok (.putfield 28, 3) := by decide +kernel
theorem dX6_hydrant_5 : decode cX6_hydrant 5 = .ok (.iload_n 1, 1) := by decide +kernel
theorem dX6_hydrant_6 : decode cX6_hydrant 6 = .ok (.invokestatic 90, 3) := by decide +kernel
theorem dX6_hydrant_9 : decode cX6_hydrant 9 = .ok (.ifCond .ne 9, 3) := by decide +kernel
theorem dX6_hydrant_12 : decode cX6_hydrant 12 = .ok (.aload_n 0, 1) := by decide +kernel
theorem dX6_hydrant_13 : decode cX6_hydrant 13 = .ok (.iconst 1, 1) := by decide +kernel
theorem dX6_hydrant_14 : decode cX6_hydrant 14 = .ok (.invokevirtual 43, 3) := by decide +kernel
theorem dX6_hydrant_17 : decode cX6_hydrant 17 = .ok (.ireturn, 1) := by decide +kernel
theorem dX6_hydrant_18 : decode cX6_hydrant 18 = .ok (.iload_n 2, 1) := by decide +kernel
theorem dX6_hydrant_19 : decode cX6_hydrant 19 = .ok (.iconst 1, 1) := by decide +kernel
theorem dX6_hydrant_20 : decode cX6_hydrant 20 = .ok (.bipush 30, 2) := by decide +kernel
theorem dX6_hydrant_22 : decode cX6_hydrant 22 = .ok (.invokestatic 32, 3) := by decide +kernel
theorem dX6_hydrant_25 : decode cX6_hydrant 25 = .ok (.ifCond .ne 9, 3) := by decide +kernel
theorem dX6_hydrant_28 : decode cX6_hydrant 28 = .ok (.aload_n 0, 1) := by decide +kernel
theorem dX6_hydrant_29 : decode cX6_hydrant 29 = .ok (.iconst 2, 1) := by decide +kernel
theorem dX6_hydrant_30 : decode cX6_hydrant 30 = .ok (.invokevirtual 43, 3) := by decide +kernel
theorem dX6_hydrant_33 : decode cX6_hydrant 33 = .ok (.ireturn, 1) := by decide +kernel
theorem dX6_hydrant_34 : decode cX6_hydrant 34 = .ok (.aload_n 0, 1) := by decide +kernel
theorem dX6_hydrant_35 : decode cX6_hydrant 35 = .ok (.invokevirtual 83, 3) := by decide +kernel
theorem dX6_hydrant_38 : decode cX6_hydrant 38 = .ok (.aload_n 0, 1) := by decide +kernel
theorem dX6_hydrant_39 : decode cX6_hydrant 39 = .ok (.bipush 12, 2) := by decide +kernel
theorem dX6_hydrant_41 : decode cX6_hydrant 41 = .ok (.bipush 6, 2) := by decide +kernel
theorem dX6_hydrant_43 : decode cX6_hydrant 43 = .ok (.iload_n 1, 1) := by decide +kernel
theorem dX6_hydrant_44 : decode cX6_hydrant 44 = .ok (.imul, 1) := by decide +kernel
theorem dX6_hydrant_45 : decode cX6_hydrant 45 = .ok (.iadd, 1) := by decide +kernel
theorem dX6_hydrant_46 : decode cX6_hydrant 46 = .ok (.iconst 1, 1) := by decide +kernel
theorem dX6_hydrant_47 : decode cX6_hydrant 47 = .ok (.iadd, 1) := by decide +kernel
theorem dX6_hydrant_48 : decode cX6_hydrant 48 = .ok (.iload_n 2, 1) := by decide +kernel
theorem dX6_hydrant_49 : decode cX6_hydrant 49 = .ok (.invokevirtual 86, 3) := by decide +kernel
theorem dX6_hydrant_52 : decode cX6_hydrant 52 = .ok (.ireturn, 1) := by decide +kernel
theorem dX6_send_0 : decode cX6_send 0 = .ok (.aload_n 0, 1) := by decide +kernel
theorem dX6_send_1 : decode cX6_send 1 = .ok (.iconst 0, 1) := by decide +kernel
theorem dX6_send_2 : decode cX6_send 2 = .ok (.putfield 28, 3) := by decide +kernel
theorem dX6_send_5 : decode cX6_send 5 = .ok (.iload_n 1, 1) := by decide +kernel
theorem dX6_send_6 : decode cX6_send 6 = .ok (.invokestatic 94, 3) := by decide +kernel
theorem dX6_send_9 : decode cX6_send 9 = .ok (.ifCond .eq 10, 3) := by decide +kernel
theorem dX6_send_12 : decode cX6_send 12 = .ok (.iload_n 2, 1) := by decide +kernel
theorem dX6_send_13 : decode cX6_send 13 = .ok (.invokestatic 90, 3) := by decide +kernel
theorem dX6_send_16 : decode cX6_send 16 = .ok (.ifCond .ne 9, 3) := by decide +kernel
theorem dX6_send_19 : decode cX6_send 19 = .ok (.aload_n 0, 1) := by decide +kernel
theorem dX6_send_20 : decode cX6_send 20 = .ok (.iconst 1, 1) := by decide +kernel
theorem dX6_send_21 : decode cX6_send 21 = .ok (.invokevirtual 43, 3) := by decide +kernel
theorem dX6_send_24 : decode cX6_send 24 = .ok (.ireturn, 1) := by decide +kernel
theorem dX6_send_25 : decode cX6_send 25 = .ok (.bipush 84, 2) := by decide +kernel
theorem dX6_send_27 : decode cX6_send 27 = .ok (.bipush 9, 2) := by decide +kernel
theorem dX6_send_29 : decode cX6_send 29 = .ok (.iload_n 1, 1) := by decide +kernel
theorem dX6_send_30 : decode cX6_send 30 = .ok (.imul, 1) := by decide +kernel
theorem dX6_send_31 : decode cX6_send 31 = .ok (.iadd, 1) := by decide +kernel
theorem dX6_send_32 : decode cX6_send 32 = .ok (.istore_n 3, 1) := by decide +kernel
theorem dX6_send_33 : decode cX6_send 33 = .ok (.aload_n 0, 1) := by decide +kernel
theorem dX6_send_34 : decode cX6_send 34 = .ok (.getfield 7, 3) := by decide +kernel
theorem dX6_send_37 : decode cX6_send 37 = .ok (.iload_n 3, 1) := by decide +kernel
theorem dX6_send_38 : decode cX6_send 38 = .ok (.iaload, 1) := by decide +kernel
theorem dX6_send_39 : decode cX6_send 39 = .ok (.bipush 8, 2) := by decide +kernel
theorem dX6_send_41 : decode cX6_send 41 = .ok (.if_icmp .ne 9, 3) := by decide +kernel
theorem dX6_send_44 : decode cX6_send 44 = .ok (.aload_n 0, 1) := by decide +kernel
theorem dX6_send_45 : decode cX6_send 45 = .ok (.iconst 2, 1) := by decide +kernel
theorem dX6_send_46 : decode cX6_send 46 = .ok (.invokevirtual 43, 3) := by decide +kernel
theorem dX6_send_49 : decode cX6_send 49 = .ok (.ireturn, 1) := by decide +kernel
theorem dX6_send_50 : decode cX6_send 50 = .ok (.aload_n 0, 1) := by decide +kernel
theorem dX6_send_51 : decode cX6_send 51 = .ok (.invokevirtual 83, 3) := by decide +kernel
theorem dX6_send_54 : decode cX6_send 54 = .ok (.aload_n 0, 1) := by decide +kernel
theorem dX6_send_55 : decode cX6_send 55 = .ok (.getfield 7, 3) := by decide +kernel
theorem dX6_send_58 : decode cX6_send 58 = .ok (.iload_n 3, 1) := by decide +kernel
theorem dX6_send_59 : decode cX6_send 59 = .ok (.dup2, 1) := by decide +kernel
theorem dX6_send_60 : decode cX6_send 60 = .ok (.iaload, 1) := by decide +kernel
theorem dX6_send_61 : decode cX6_send 61 = .ok (.iconst 1, 1) := by decide +kernel
theorem dX6_send_62 : decode cX6_send 62 = .ok (.iadd, 1) := by decide +kernel
theorem dX6_send_63 : decode cX6_send 63 = .ok (.iastore, 1) := by decide +kernel
theorem dX6_send_64 : decode cX6_send 64 = .ok (.aload_n 0, 1) := by decide +kernel
theorem dX6_send_65 : decode cX6_send 65 = .ok (.getfield 7, 3) := by decide +kernel
theorem dX6_send_68 : decode cX6_send 68 = .ok (.iload_n 3, 1) := by decide +kernel
theorem dX6_send_69 : decode cX6_send 69 = .ok (.aload_n 0, 1) := by decide +kernel
theorem dX6_send_70 : decode cX6_send 70 = .ok (.getfield 7, 3) := by decide +kernel
theorem dX6_send_73 : decode cX6_send 73 = .ok (.iload_n 3, 1) := by decide +kernel
theorem dX6_send_74 : decode cX6_send 74 = .ok (.iaload, 1) := by decide +kernel
theorem dX6_send_75 : decode cX6_send 75 = .ok (.iadd, 1) := by decide +kernel
theorem dX6_send_76 : decode cX6_send 76 = .ok (.iload_n 2, 1) := by decide +kernel
theorem dX6_send_77 : decode cX6_send 77 = .ok (.iastore, 1) := by decide +kernel
theorem dX6_send_78 : decode cX6_send 78 = .ok (.aload_n 0, 1) := by decide +kernel
theorem dX6_send_79 : decode cX6_send 79 = .ok (.getfield 7, 3) := by decide +kernel
theorem dX6_send_82 : decode cX6_send 82 = .ok (.iload_n 3, 1) := by decide +kernel
theorem dX6_send_83 : decode cX6_send 83 = .ok (.iaload, 1) := by decide +kernel
theorem dX6_send_84 : decode cX6_send 84 = .ok (.ireturn, 1) := by decide +kernel
theorem dX6_skip_0 : decode cX6_skip 0 = .ok (.aload_n 0, 1) := by decide +kernel
theorem dX6_skip_1 : decode cX6_skip 1 = .ok (.iconst 0, 1) := by decide +kernel
theorem dX6_skip_2 : decode cX6_skip 2 = .ok (.putfield 28, 3) := by decide +kernel
theorem dX6_skip_5 : decode cX6_skip 5 = .ok (.iload_n 1, 1) := by decide +kernel
theorem dX6_skip_6 : decode cX6_skip 6 = .ok (.invokestatic 94, 3) := by decide +kernel
theorem dX6_skip_9 : decode cX6_skip 9 = .ok (.ifCond .ne 9, 3) := by decide +kernel
theorem dX6_skip_12 : decode cX6_skip 12 = .ok (.aload_n 0, 1) := by decide +kernel
theorem dX6_skip_13 : decode cX6_skip 13 = .ok (.iconst 1, 1) := by decide +kernel
theorem dX6_skip_14 : decode cX6_skip 14 = .ok (.invokevirtual 43, 3) := by decide +kernel
theorem dX6_skip_17 : decode cX6_skip 17 = .ok (.ireturn, 1) := by decide +kernel
theorem dX6_skip_18 : decode cX6_skip 18 = .ok (.aload_n 0, 1) := by decide +kernel
theorem dX6_skip_19 : decode cX6_skip 19 = .ok (.invokevirtual 83, 3) := by decide +kernel
theorem dX6_skip_22 : decode cX6_skip 22 = .ok (.aload_n 0, 1) := by decide +kernel
theorem dX6_skip_23 : decode cX6_skip 23 = .ok (.getfield 7, 3) := by decide +kernel
theorem dX6_skip_26 : decode cX6_skip 26 = .ok (.iload_n 1, 1) := by decide +kernel
theorem dX6_skip_27 : decode cX6_skip 27 = .ok (.invokestatic 57, 3) := by decide +kernel
theorem dX6_skip_30 : decode cX6_skip 30 = .ok (.istore_n 2, 1) := by decide +kernel
theorem dX6_skip_31 : decode cX6_skip 31 = .ok (.iload_n 2, 1) := by decide +kernel
theorem dX6_skip_32 : decode cX6_skip 32 = .ok (.iconst (-1), 1) := by decide +kernel
theorem dX6_skip_33 : decode cX6_skip 33 = .ok (.if_icmp .eq 11, 3) := by decide +kernel
theorem dX6_skip_36 : decode cX6_skip 36 = .ok (.aload_n 0, 1) := by decide +kernel
theorem dX6_skip_37 : decode cX6_skip 37 = .ok (.getfield 7, 3) := by decide +kernel
theorem dX6_skip_40 : decode cX6_skip 40 = .ok (.iload_n 1, 1) := by decide +kernel
theorem dX6_skip_41 : decode cX6_skip 41 = .ok (.invokestatic 79, 3) := by decide +kernel
theorem dX6_skip_44 : decode cX6_skip 44 = .ok (.iload_n 2, 1) := by decide +kernel
theorem dX6_skip_45 : decode cX6_skip 45 = .ok (.ireturn, 1) := by decide +kernel
theorem dX6_isFor_0 : decode cX6_isFor 0 = .ok (.iload_n 1, 1) := by decide +kernel
theorem dX6_isFor_1 : decode cX6_isFor 1 = .ok (.iload_n 0, 1) := by decide +kernel
theorem dX6_isFor_2 : decode cX6_isFor 2 = .ok (.iconst 2, 1) := by decide +kernel
theorem dX6_isFor_3 : decode cX6_isFor 3 = .ok (.if_icmp .ne 7, 3) := by decide +kernel
theorem dX6_isFor_6 : decode cX6_isFor 6 = .ok (.iconst 1, 1) := by decide +kernel
theorem dX6_isFor_7 : decode cX6_isFor 7 = .ok (.goto 4, 3) := by decide +kernel
theorem dX6_isFor_10 : decode cX6_isFor 10 = .ok (.iconst 0, 1) := by decide +kernel
theorem dX6_isFor_11 : decode cX6_isFor 11 = .ok (.iload_n 0, 1) := by decide +kernel
theorem dX6_isFor_12 : decode cX6_isFor 12 = .ok (.ifCond .ne 8, 3) := by decide +kernel
theorem dX6_isFor_15 : decode cX6_isFor 15 = .ok (.bipush 99, 2) := by decide +kernel
theorem dX6_isFor_17 : decode cX6_isFor 17 = .ok (.goto 25, 3) := by decide +kernel
theorem dX6_isFor_20 : decode cX6_isFor 20 = .ok (.iload_n 0, 1) := by decide +kernel
theorem dX6_isFor_21 : decode cX6_isFor 21 = .ok (.iconst 1, 1) := by decide +kernel
theorem dX6_isFor_22 : decode cX6_isFor 22 = .ok (.if_icmp .ne 8, 3) := by decide +kernel
theorem dX6_isFor_25 : decode cX6_isFor 25 = .ok (.bipush 60, 2) := by decide +kernel
theorem dX6_isFor_27 : decode cX6_isFor 27 = .ok (.goto 15, 3) := by decide +kernel
theorem dX6_isFor_30 : decode cX6_isFor 30 = .ok (.iload_n 0, 1) := by decide +kernel
theorem dX6_isFor_31 : decode cX6_isFor 31 = .ok (.iconst 2, 1) := by decide +kernel
theorem dX6_isFor_32 : decode cX6_isFor 32 = .ok (.if_icmp .ne 8, 3) := by decide +kernel
theorem dX6_isFor_35 : decode cX6_isFor 35 = .ok (.bipush 9, 2) := by decide +kernel
theorem dX6_isFor_37 : decode cX6_isFor 37 = .ok (.goto 5, 3) := by decide +kernel
theorem dX6_isFor_40 : decode cX6_isFor 40 = .ok (.bipush 20, 2) := by decide +kernel
theorem dX6_isFor_42 : decode cX6_isFor 42 = .ok (.invokestatic 32, 3) := by decide +kernel
theorem dX6_isFor_45 : decode cX6_isFor 45 = .ok (.ireturn, 1) := by decide +kernel
theorem dX6_set_0 : decode cX6_set 0 = .ok (.aload_n 0, 1) := by decide +kernel
theorem dX6_set_1 : decode cX6_set 1 = .ok (.iconst 0, 1) := by decide +kernel
theorem dX6_set_2 : decode cX6_set 2 = .ok (.putfield 28, 3) := by decide +kernel
theorem dX6_set_5 : decode cX6_set 5 = .ok (.iload_n 1, 1) := by decide +kernel
theorem dX6_set_6 : decode cX6_set 6 = .ok (.iconst 0, 1) := by decide +kernel
theorem dX6_set_7 : decode cX6_set 7 = .ok (.iconst 3, 1) := by decide +kernel
theorem dX6_set_8 : decode cX6_set 8 = .ok (.invokestatic 32, 3) := by decide +kernel
theorem dX6_set_11 : decode cX6_set 11 = .ok (.ifCond .ne 9, 3) := by decide +kernel
theorem dX6_set_14 : decode cX6_set 14 = .ok (.aload_n 0, 1) := by decide +kernel
theorem dX6_set_15 : decode cX6_set 15 = .ok (.iconst 1, 1) := by decide +kernel
theorem dX6_set_16 : decode cX6_set 16 = .ok (.invokevirtual 43, 3) := by decide +kernel
theorem dX6_set_19 : decode cX6_set 19 = .ok (.ireturn, 1) := by decide +kernel
theorem dX6_set_20 : decode cX6_set 20 = .ok (.iload_n 1, 1) := by decide +kernel
theorem dX6_set_21 : decode cX6_set 21 = .ok (.iload_n 2, 1) := by decide +kernel
theorem dX6_set_22 : decode cX6_set 22 = .ok (.invokestatic 97, 3) := by decide +kernel
theorem dX6_set_25 : decode cX6_set 25 = .ok (.ifCond .ne 9, 3) := by decide +kernel
theorem dX6_set_28 : decode cX6_set 28 = .ok (.aload_n 0, 1) := by decide +kernel
theorem dX6_set_29 : decode cX6_set 29 = .ok (.iconst 2, 1) := by decide +kernel
theorem dX6_set_30 : decode cX6_set 30 = .ok (.invokevirtual 43, 3) := by decide +kernel
theorem dX6_set_33 : decode cX6_set 33 = .ok (.ireturn, 1) := by decide +kernel
theorem dX6_set_34 : decode cX6_set 34 = .ok (.aload_n 0, 1) := by decide +kernel
theorem dX6_set_35 : decode cX6_set 35 = .ok (.invokevirtual 83, 3) := by decide +kernel
theorem dX6_set_38 : decode cX6_set 38 = .ok (.aload_n 0, 1) := by decide +kernel
theorem dX6_set_39 : decode cX6_set 39 = .ok (.iload_n 1, 1) := by decide +kernel
theorem dX6_set_40 : decode cX6_set 40 = .ok (.iload_n 2, 1) := by decide +kernel
theorem dX6_set_41 : decode cX6_set 41 = .ok (.invokevirtual 86, 3) := by decide +kernel
theorem dX6_set_44 : decode cX6_set 44 = .ok (.ireturn, 1) := by decide +kernel
theorem dX6_pass_0 : decode cX6_pass 0 = .ok (.aload_n 0, 1) := by decide +kernel
theorem dX6_pass_1 : decode cX6_pass 1 = .ok (.iconst 0, 1) := by decide +kernel
theorem dX6_pass_2 : decode cX6_pass 2 = .ok (.putfield 28, 3) := by decide +kernel
theorem dX6_pass_5 : decode cX6_pass 5 = .ok (.iload_n 1, 1) := by decide +kernel
theorem dX6_pass_6 : decode cX6_pass 6 = .ok (.iconst 1, 1) := by decide +kernel
theorem dX6_pass_7 : decode cX6_pass 7 = .ok (.bipush 48, 2) := by decide +kernel
theorem dX6_pass_9 : decode cX6_pass 9 = .ok (.invokestatic 32, 3) := by decide +kernel
theorem dX6_pass_12 : decode cX6_pass 12 = .ok (.ifCond .ne 9, 3) := by decide +kernel
theorem dX6_pass_15 : decode cX6_pass 15 = .ok (.aload_n 0, 1) := by decide +kernel
theorem dX6_pass_16 : decode cX6_pass 16 = .ok (.iconst 1, 1) := by decide +kernel
theorem dX6_pass_17 : decode cX6_pass 17 = .ok (.invokevirtual 43, 3) := by decide +kernel
theorem dX6_pass_20 : decode cX6_pass 20 = .ok (.ireturn, 1) := by decide +kernel
theorem dX6_pass_21 : decode cX6_pass 21 = .ok (.aload_n 0, 1) := by decide +kernel
theorem dX6_pass_22 : decode cX6_pass 22 = .ok (.invokevirtual 83, 3) := by decide +kernel
theorem dX6_pass_25 : decode cX6_pass 25 = .ok (.aload_n 0, 1) := by decide +kernel
theorem dX6_pass_26 : decode cX6_pass 26 = .ok (.getfield 7, 3) := by decide +kernel
theorem dX6_pass_29 : decode cX6_pass 29 = .ok (.iconst 3, 1) := by decide +kernel
theorem dX6_pass_30 : decode cX6_pass 30 = .ok (.invokestatic 101, 3) := by decide +kernel
theorem dX6_pass_33 : decode cX6_pass 33 = .ok (.istore_n 2, 1) := by decide +kernel
theorem dX6_pass_34 : decode cX6_pass 34 = .ok (.iconst 0, 1) := by decide +kernel
theorem dX6_pass_35 : decode cX6_pass 35 = .ok (.istore_n 3, 1) := by decide +kernel
theorem dX6_pass_36 : decode cX6_pass 36 = .ok (.iload_n 3, 1) := by decide +kernel
theorem dX6_pass_37 : decode cX6_pass 37 = .ok (.iload_n 1, 1) := by decide +kernel
theorem dX6_pass_38 : decode cX6_pass 38 = .ok (.if_icmp .ge 17, 3) := by decide +kernel
theorem dX6_pass_41 : decode cX6_pass 41 = .ok (.aload_n 0, 1) := by decide +kernel
theorem dX6_pass_42 : decode cX6_pass 42 = .ok (.aload_n 0, 1) := by decide +kernel
theorem dX6_pass_43 : decode cX6_pass 43 = .ok (.getfield 7, 3) := by decide +kernel
theorem dX6_pass_46 : decode cX6_pass 46 = .ok (.invokevirtual 104, 3) := by decide +kernel
theorem dX6_pass_49 : decode cX6_pass 49 = .ok (.iinc 3 1, 3) := by decide +kernel
theorem dX6_pass_52 : decode cX6_pass 52 = .ok (.goto (-16), 3) := by decide +kernel
theorem dX6_pass_55 : decode cX6_pass 55 = .ok (.aload_n 0, 1) := by decide +kernel
theorem dX6_pass_56 : decode cX6_pass 56 = .ok (.getfield 7, 3) := by decide +kernel
theorem dX6_pass_59 : decode cX6_pass 59 = .ok (.iconst 3, 1) := by decide +kernel
theorem dX6_pass_60 : decode cX6_pass 60 = .ok (.invokestatic 101, 3) := by decide +kernel
theorem dX6_pass_63 : decode cX6_pass 63 = .ok (.iload_n 2, 1) := by decide +kernel
theorem dX6_pass_64 : decode cX6_pass 64 = .ok (.isub, 1) := by decide +kernel
theorem dX6_pass_65 : decode cX6_pass 65 = .ok (.ireturn, 1) := by decide +kernel
theorem dX6_append_0 : decode cX6_append 0 = .ok (.aload_n 0, 1) := by decide +kernel
theorem dX6_append_1 : decode cX6_append 1 = .ok (.iconst 0, 1) := by decide +kernel
theorem dX6_append_2 : decode cX6_append 2 = .ok (.putfield 28, 3) := by decide +kernel
theorem dX6_append_5 : decode cX6_append 5 = .ok (.iload_n 1, 1) := by decide +kernel
theorem dX6_append_6 : decode cX6_append 6 = .ok (.bipush 33, 2) := by decide +kernel
theorem dX6_append_8 : decode cX6_append 8 = .ok (.bipush 126, 2) := by decide +kernel
theorem dX6_append_10 : decode cX6_append 10 = .ok (.invokestatic 32, 3) := by decide +kernel
theorem dX6_append_13 : decode cX6_append 13 = .ok (.ifCond .ne 9, 3) := by decide +kernel
theorem dX6_append_16 : decode cX6_append 16 = .ok (.aload_n 0, 1) := by decide +kernel
theorem dX6_append_17 : decode cX6_append 17 = .ok (.iconst 1, 1) := by decide +kernel
theorem dX6_append_18 : decode cX6_append 18 = .ok (.invokevirtual 43, 3) := by decide +kernel
theorem dX6_append_21 : decode cX6_append 21 = .ok (.ireturn, 1) := by decide +kernel
theorem dX6_append_22 : decode cX6_append 22 = .ok (.aload_n 0, 1) := by decide +kernel
theorem dX6_append_23 : decode cX6_append 23 = .ok (.getfield 107, 3) := by decide +kernel
theorem dX6_append_26 : decode cX6_append 26 = .ok (.bipush 60, 2) := by decide +kernel
theorem dX6_append_28 : decode cX6_append 28 = .ok (.if_icmp .ne 9, 3) := by decide +kernel
theorem dX6_append_31 : decode cX6_append 31 = .ok (.aload_n 0, 1) := by decide +kernel
theorem dX6_append_32 : decode cX6_append 32 = .ok (.iconst 2, 1) := by decide +kernel
theorem dX6_append_33 : decode cX6_append 33 = .ok (.invokevirtual 43, 3) := by decide +kernel
theorem dX6_append_36 : decode cX6_append 36 = .ok (.ireturn, 1) := by decide +kernel
theorem dX6_append_37 : decode cX6_append 37 = .ok (.aload_n 0, 1) := by decide +kernel
theorem dX6_append_38 : decode cX6_append 38 = .ok (.getfield 19, 3) := by decide +kernel
theorem dX6_append_41 : decode cX6_append 41 = .ok (.aload_n 0, 1) := by decide +kernel
theorem dX6_append_42 : decode cX6_append 42 = .ok (.getfield 107, 3) := by decide +kernel
theorem dX6_append_45 : decode cX6_append 45 = .ok (.iload_n 1, 1) := by decide +kernel
theorem dX6_append_46 : decode cX6_append 46 = .ok (.iastore, 1) := by decide +kernel
theorem dX6_append_47 : decode cX6_append 47 = .ok (.aload_n 0, 1) := by decide +kernel
theorem dX6_append_48 : decode cX6_append 48 = .ok (.dup, 1) := by decide +kernel
theorem dX6_append_49 : decode cX6_append 49 = .ok (.getfield 107, 3) := by decide +kernel
theorem dX6_append_52 : decode cX6_append 52 = .ok (.iconst 1, 1) := by decide +kernel
theorem dX6_append_53 : decode cX6_append 53 = .ok (.iadd, 1) := by decide +kernel
theorem dX6_append_54 : decode cX6_append 54 = .ok (.putfield 107, 3) := by decide +kernel
theorem dX6_append_57 : decode cX6_append 57 = .ok (.aload_n 0, 1) := by decide +kernel
theorem dX6_append_58 : decode cX6_append 58 = .ok (.getfield 107, 3) := by decide +kernel
theorem dX6_append_61 : decode cX6_append 61 = .ok (.ireturn, 1) := by decide +kernel
theorem dX6_clearBuffer_0 : decode cX6_clearBuffer 0 = .ok (.aload_n 0, 1) := by decide +kernel
theorem dX6_clearBuffer_1 : decode cX6_clearBuffer 1 = .ok (.iconst 0, 1) := by decide +kernel
theorem dX6_clearBuffer_2 : decode cX6_clearBuffer 2 = .ok (.putfield 28, 3) := by decide +kernel
theorem dX6_clearBuffer_5 : decode cX6_clearBuffer 5 = .ok (.aload_n 0, 1) := by decide +kernel
theorem dX6_clearBuffer_6 : decode cX6_clearBuffer 6 = .ok (.getfield 107, 3) := by decide +kernel
theorem dX6_clearBuffer_9 : decode cX6_clearBuffer 9 = .ok (.istore_n 1, 1) := by decide +kernel
theorem dX6_clearBuffer_10 : decode cX6_clearBuffer 10 = .ok (.aload_n 0, 1) := by decide +kernel
theorem dX6_clearBuffer_11 : decode cX6_clearBuffer 11 = .ok (.iconst 0, 1) := by decide +kernel
theorem dX6_clearBuffer_12 : decode cX6_clearBuffer 12 = .ok (.putfield 107, 3) := by decide +kernel
theorem dX6_clearBuffer_15 : decode cX6_clearBuffer 15 = .ok (.iload_n 1, 1) := by decide +kernel
theorem dX6_clearBuffer_16 : decode cX6_clearBuffer 16 = .ok (.ireturn, 1) := by decide +kernel
theorem dX6_isAt_0 : decode cX6_isAt 0 = .ok (.aload_n 0, 1) := by decide +kernel
theorem dX6_isAt_1 : decode cX6_isAt 1 = .ok (.getfield 110, 3) := by decide +kernel
theorem dX6_isAt_4 : decode cX6_isAt 4 = .ok (.aload_n 0, 1) := by decide +kernel
theorem dX6_isAt_5 : decode cX6_isAt 5 = .ok (.getfield 107, 3) := by decide +kernel
theorem dX6_isAt_8 : decode cX6_isAt 8 = .ok (.if_icmp .ge 24, 3) := by decide +kernel
theorem dX6_isAt_11 : decode cX6_isAt 11 = .ok (.aload_n 0, 1) := by decide +kernel
theorem dX6_isAt_12 : decode cX6_isAt 12 = .ok (.getfield 19, 3) := by decide +kernel
theorem dX6_isAt_15 : decode cX6_isAt 15 = .ok (.aload_n 0, 1) := by decide +kernel
theorem dX6_isAt_16 : decode cX6_isAt 16 = .ok (.getfield 110, 3) := by decide +kernel
theorem dX6_isAt_19 : decode cX6_isAt 19 = .ok (.iaload, 1) := by decide +kernel
theorem dX6_isAt_20 : decode cX6_isAt 20 = .ok (.iload_n 1, 1) := by decide +kernel
theorem dX6_isAt_21 : decode cX6_isAt 21 = .ok (.iload_n 2, 1) := by decide +kernel
theorem dX6_isAt_22 : decode cX6_isAt 22 = .ok (.invokestatic 32, 3) := by decide +kernel
theorem dX6_isAt_25 : decode cX6_isAt 25 = .ok (.ifCond .eq 7, 3) := by decide +kernel
theorem dX6_isAt_28 : decode cX6_isAt 28 = .ok (.iconst 1, 1) := by decide +kernel
theorem dX6_isAt_29 : decode cX6_isAt 29 = .ok (.goto 4, 3) := by decide +kernel
theorem dX6_isAt_32 : decode cX6_isAt 32 = .ok (.iconst 0, 1) := by decide +kernel
theorem dX6_isAt_33 : decode cX6_isAt 33 = .ok (.ireturn, 1) := by decide +kernel
theorem dX6_stops_0 : decode cX6_stops 0 = .ok (.aload_n 0, 1) := by decide +kernel
theorem dX6_stops_1 : decode cX6_stops 1 = .ok (.aload_n 0, 1) := by decide +kernel
theorem dX6_stops_2 : decode cX6_stops 2 = .ok (.getfield 110, 3) := by decide +kernel
theorem dX6_stops_5 : decode cX6_stops 5 = .ok (.aload_n 0, 1) := by decide +kernel
theorem dX6_stops_6 : decode cX6_stops 6 = .ok (.getfield 107, 3) := by decide +kernel
theorem dX6_stops_9 : decode cX6_stops 9 = .ok (.if_icmp .ge 7, 3) := by decide +kernel
theorem dX6_stops_12 : decode cX6_stops 12 = .ok (.iconst 1, 1) := by decide +kernel
theorem dX6_stops_13 : decode cX6_stops 13 = .ok (.goto 4, 3) := by decide +kernel
theorem dX6_stops_16 : decode cX6_stops 16 = .ok (.iconst 0, 1) := by decide +kernel
theorem dX6_stops_17 : decode cX6_stops 17 = .ok (.putfield 113, 3) := by decide +kernel
theorem dX6_stops_20 : decode cX6_stops 20 = .ok (.iconst 0, 1) := by decide +kernel
theorem dX6_stops_21 : decode cX6_stops 21 = .ok (.ireturn, 1) := by decide +kernel
theorem dX6_isPart_0 : decode cX6_isPart 0 = .ok (.aload_n 0, 1) := by decide +kernel
theorem dX6_isPart_1 : decode cX6_isPart 1 = .ok (.bipush 97, 2) := by decide +kernel
theorem dX6_isPart_3 : decode cX6_isPart 3 = .ok (.bipush 99, 2) := by decide +kernel
theorem dX6_isPart_5 : decode cX6_isPart 5 = .ok (.invokevirtual 117, 3) := by decide +kernel
theorem dX6_isPart_8 : decode cX6_isPart 8 = .ok (.ifCond .ne 8, 3) := by decide +kernel
theorem dX6_isPart_11 : decode cX6_isPart 11 = .ok (.aload_n 0, 1) := by decide +kernel
theorem dX6_isPart_12 : decode cX6_isPart 12 = .ok (.invokevirtual 120, 3) := by decide +kernel
theorem dX6_isPart_15 : decode cX6_isPart 15 = .ok (.ireturn, 1) := by decide +kernel
theorem dX6_isPart_16 : decode cX6_isPart 16 = .ok (.bipush 9, 2) := by decide +kernel
theorem dX6_isPart_18 : decode cX6_isPart 18 = .ok (.aload_n 0, 1) := by decide +kernel
theorem dX6_isPart_19 : decode cX6_isPart 19 = .ok (.getfield 19, 3) := by decide +kernel
theorem dX6_isPart_22 : decode cX6_isPart 22 = .ok (.aload_n 0, 1) := by decide +kernel
theorem dX6_isPart_23 : decode cX6_isPart 23 = .ok (.getfield 110, 3) := by decide +kernel
theorem dX6_isPart_26 : decode cX6_isPart 26 = .ok (.iaload, 1) := by decide +kernel
theorem dX6_isPart_27 : decode cX6_isPart 27 = .ok (.bipush 97, 2) := by decide +kernel
theorem dX6_isPart_29 : decode cX6_isPart 29 = .ok (.isub, 1) := by decide +kernel
theorem dX6_isPart_30 : decode cX6_isPart 30 = .ok (.imul, 1) := by decide +kernel
theorem dX6_isPart_31 : decode cX6_isPart 31 = .ok (.istore_n 1, 1) := by decide +kernel
theorem dX6_isPart_32 : decode cX6_isPart 32 = .ok (.aload_n 0, 1) := by decide +kernel
theorem dX6_isPart_33 : decode cX6_isPart 33 = .ok (.getfield 22, 3) := by decide +kernel
theorem dX6_isPart_36 : decode cX6_isPart 36 = .ok (.iload_n 1, 1) := by decide +kernel
theorem dX6_isPart_37 : decode cX6_isPart 37 = .ok (.iconst 0, 1) := by decide +kernel
theorem dX6_isPart_38 : decode cX6_isPart 38 = .ok (.iastore, 1) := by decide +kernel
theorem dX6_isPart_39 : decode cX6_isPart 39 = .ok (.iconst 1, 1) := by decide +kernel
theorem dX6_isPart_40 : decode cX6_isPart 40 = .ok (.istore_n 2, 1) := by decide +kernel
theorem dX6_isPart_41 : decode cX6_isPart 41 = .ok (.iload_n 2, 1) := by decide +kernel
theorem dX6_isPart_42 : decode cX6_isPart 42 = .ok (.ifCond .eq 149, 3) := by decide +kernel
theorem dX6_isPart_45 : decode cX6_isPart 45 = .ok (.aload_n 0, 1) := by decide +kernel
theorem dX6_isPart_46 : decode cX6_isPart 46 = .ok (.dup, 1) := by decide +kernel
theorem dX6_isPart_47 : decode cX6_isPart 47 = .ok (.getfield 110, 3) := by decide +kernel
theorem dX6_isPart_50 : decode cX6_isPart 50 = .ok (.iconst 1, 1) := by decide +kernel
theorem dX6_isPart_51 : decode cX6_isPart 51 = .ok (.iadd, 1) := by decide +kernel
theorem dX6_isPart_52 : decode cX6_isPart 52 = .ok (.putfield 110, 3) := by decide +kernel
theorem dX6_isPart_55 : decode cX6_isPart 55 = .ok (.aload_n 0, 1) := by decide +kernel
theorem dX6_isPart_56 : decode cX6_isPart 56 = .ok (.bipush 48, 2) := by decide +kernel
theorem dX6_isPart_58 : decode cX6_isPart 58 = .ok (.bipush 57, 2) := by decide +kernel
theorem dX6_isPart_60 : decode cX6_isPart 60 = .ok (.invokevirtual 117, 3) := by decide +kernel
theorem dX6_isPart_63 : decode cX6_isPart 63 = .ok (.ifCond .ne 8, 3) := by decide +kernel
theorem dX6_isPart_66 : decode cX6_isPart 66 = .ok (.aload_n 0, 1) := by decide +kernel
theorem dX6_isPart_67 : decode cX6_isPart 67 = .ok (.invokevirtual 120, 3) := by decide +kernel
theorem dX6_isPart_70 : decode cX6_isPart 70 = .ok (.ireturn, 1) := by decide +kernel
theorem dX6_isPart_71 : decode cX6_isPart 71 = .ok (.aload_n 0, 1) := by decide +kernel
theorem dX6_isPart_72 : decode cX6_isPart 72 = .ok (.getfield 19, 3) := by decide +kernel
theorem dX6_isPart_75 : decode cX6_isPart 75 = .ok (.aload_n 0, 1) := by decide +kernel
theorem dX6_isPart_76 : decode cX6_isPart 76 = .ok (.getfield 110, 3) := by decide +kernel
theorem dX6_isPart_79 : decode cX6_isPart 79 = .ok (.iaload, 1) := by decide +kernel
theorem dX6_isPart_80 : decode cX6_isPart 80 = .ok (.bipush 48, 2) := by decide +kernel
theorem dX6_isPart_82 : decode cX6_isPart 82 = .ok (.isub, 1) := by decide +kernel
theorem dX6_isPart_83 : decode cX6_isPart 83 = .ok (.istore_n 3, 1) := by decide +kernel
theorem dX6_isPart_84 : decode cX6_isPart 84 = .ok (.aload_n 0, 1) := by decide +kernel
theorem dX6_isPart_85 : decode cX6_isPart 85 = .ok (.dup, 1) := by decide +kernel
theorem dX6_isPart_86 : decode cX6_isPart 86 = .ok (.getfield 110, 3) := by decide +kernel
theorem dX6_isPart_89 : decode cX6_isPart 89 = .ok (.iconst 1, 1) := by decide +kernel
theorem dX6_isPart_90 : decode cX6_isPart 90 = .ok (.iadd, 1) := by decide +kernel
theorem dX6_isPart_91 : decode cX6_isPart 91 = .ok (.putfield 110, 3) := by decide +kernel
theorem dX6_isPart_94 : decode cX6_isPart 94 = .ok (.iload_n 3, 1) := by decide +kernel
theorem dX6_isPart_95 : decode cX6_isPart 95 = .ok (.iconst 1, 1) := by decide +kernel
theorem dX6_isPart_96 : decode cX6_isPart 96 = .ok (.if_icmp .ne 40, 3) := by decide +kernel
theorem dX6_isPart_99 : decode cX6_isPart 99 = .ok (.aload_n 0, 1) := by decide +kernel
theorem dX6_isPart_100 : decode cX6_isPart 100 = .ok (.bipush 48, 2) := by decide +kernel
theorem dX6_isPart_102 : decode cX6_isPart 102 = .ok (.bipush 49, 2) := by decide +kernel
theorem dX6_isPart_104 : decode cX6_isPart 104 = .ok (.invokevirtual 117, 3) := by decide +kernel
theorem dX6_isPart_107 : decode cX6_isPart 107 = .ok (.ifCond .eq 29, 3) := by decide +kernel
theorem dX6_isPart_110 : decode cX6_isPart 110 = .ok (.bipush 10, 2) := by decide +kernel
theorem dX6_isPart_112 : decode cX6_isPart 112 = .ok (.aload_n 0, 1) := by decide +kernel
theorem dX6_isPart_113 : decode cX6_isPart 113 = .ok (.getfield 19, 3) := by decide +kernel
theorem dX6_isPart_116 : decode cX6_isPart 116 = .ok (.aload_n 0, 1) := by decide +kernel
theorem dX6_isPart_117 : decode cX6_isPart 117 = .ok (.getfield 110, 3) := by decide +kernel
theorem dX6_isPart_120 : decode cX6_isPart 120 = .ok (.iaload, 1) := by decide +kernel
theorem dX6_isPart_121 : decode cX6_isPart 121 = .ok (.iadd, 1) := by decide +kernel
theorem dX6_isPart_122 : decode cX6_isPart 122 = .ok (.bipush 48, 2) := by decide +kernel
theorem dX6_isPart_124 : decode cX6_isPart 124 = .ok (.isub, 1) := by decide +kernel
theorem dX6_isPart_125 : decode cX6_isPart 125 = .ok (.istore_n 3, 1) := by decide +kernel
theorem dX6_isPart_126 : decode cX6_isPart 126 = .ok (.aload_n 0, 1) := by decide +kernel
theorem dX6_isPart_127 : decode cX6_isPart 127 = .ok (.dup, 1) := by decide +kernel
theorem dX6_isPart_128 : decode cX6_isPart 128 = .ok (.getfield 110, 3) := by decide +kernel
theorem dX6_isPart_131 : decode cX6_isPart 131 = .ok (.iconst 1, 1) := by decide +kernel
theorem dX6_isPart_132 : decode cX6_isPart 132 = .ok (.iadd, 1) := by decide +kernel
theorem dX6_isPart_133 : decode cX6_isPart 133 = .ok (.putfield 110, 3) := by decide +kernel
theorem dX6_isPart_136 : decode cX6_isPart 136 = .ok (.aload_n 0, 1) := by decide +kernel
theorem dX6_isPart_137 : decode cX6_isPart 137 = .ok (.getfield 22, 3) := by decide +kernel
theorem dX6_isPart_140 : decode cX6_isPart 140 = .ok (.iload_n 1, 1) := by decide +kernel
theorem dX6_isPart_141 : decode cX6_isPart 141 = .ok (.dup2, 1) := by decide +kernel
theorem dX6_isPart_142 : decode cX6_isPart 142 = .ok (.iaload, 1) := by decide +kernel
theorem dX6_isPart_143 : decode cX6_isPart 143 = .ok (.iconst 1, 1) := by decide +kernel
theorem dX6_isPart_144 : decode cX6_isPart 144 = .ok (.iadd, 1) := by decide +kernel
theorem dX6_isPart_145 : decode cX6_isPart 145 = .ok (.iastore, 1) := by decide +kernel
theorem dX6_isPart_146 : decode cX6_isPart 146 = .ok (.aload_n 0, 1) := by decide +kernel
theorem dX6_isPart_147 : decode cX6_isPart 147 = .ok (.getfield 22, 3) := by decide +kernel
theorem dX6_isPart_150 : decode cX6_isPart 150 = .ok (.iload_n 1, 1) := by decide +kernel
theorem dX6_isPart_151 : decode cX6_isPart 151 = .ok (.aload_n 0, 1) := by decide +kernel
theorem dX6_isPart_152 : decode cX6_isPart 152 = .ok (.getfield 22, 3) := by decide +kernel
theorem dX6_isPart_155 : decode cX6_isPart 155 = .ok (.iload_n 1, 1) := by decide +kernel
theorem dX6_isPart_156 : decode cX6_isPart 156 = .ok (.iaload, 1) := by decide +kernel
theorem dX6_isPart_157 : decode cX6_isPart 157 = .ok (.iadd, 1) := by decide +kernel
theorem dX6_isPart_158 : decode cX6_isPart 158 = .ok (.iload_n 3, 1) := by decide +kernel
theorem dX6_isPart_159 : decode cX6_isPart 159 = .ok (.iastore, 1) := by decide +kernel
theorem dX6_isPart_160 : decode cX6_isPart 160 = .ok (.aload_n 0, 1) := by decide +kernel
theorem dX6_isPart_161 : decode cX6_isPart 161 = .ok (.getfield 22, 3) := by decide +kernel
theorem dX6_isPart_164 : decode cX6_isPart 164 = .ok (.iload_n 1, 1) := by decide +kernel
theorem dX6_isPart_165 : decode cX6_isPart 165 = .ok (.iaload, 1) := by decide +kernel
theorem dX6_isPart_166 : decode cX6_isPart 166 = .ok (.bipush 8, 2) := by decide +kernel
theorem dX6_isPart_168 : decode cX6_isPart 168 = .ok (.if_icmp .ge 18, 3) := by decide +kernel
theorem dX6_isPart_171 : decode cX6_isPart 171 = .ok (.aload_n 0, 1) := by decide +kernel
theorem dX6_isPart_172 : decode cX6_isPart 172 = .ok (.bipush 44, 2) := by decide +kernel
theorem dX6_isPart_174 : decode cX6_isPart 174 = .ok (.bipush 44, 2) := by decide +kernel
theorem dX6_isPart_176 : decode cX6_isPart 176 = .ok (.invokevirtual 117, 3) := by decide +kernel
theorem dX6_isPart_179 : decode cX6_isPart 179 = .ok (.ifCond .eq 7, 3) := by decide +kernel
theorem dX6_isPart_182 : decode cX6_isPart 182 = .ok (.iconst 1, 1) := by decide +kernel
theorem dX6_isPart_183 : decode cX6_isPart 183 = .ok (.goto 4, 3) := by decide +kernel
theorem dX6_isPart_186 : decode cX6_isPart 186 = .ok (.iconst 0, 1) := by decide +kernel
theorem dX6_isPart_187 : decode cX6_isPart 187 = .ok (.istore_n 2, 1) := by decide +kernel
theorem dX6_isPart_188 : decode cX6_isPart 188 = .ok (.goto (-147), 3) := by decide +kernel
theorem dX6_isPart_191 : decode cX6_isPart 191 = .ok (.iconst 1, 1) := by decide +kernel
theorem dX6_isPart_192 : decode cX6_isPart 192 = .ok (.ireturn, 1) := by decide +kernel
theorem dX6_isText_0 : decode cX6_isText 0 = .ok (.aload_n 0, 1) := by decide +kernel
theorem dX6_isText_1 : decode cX6_isText 1 = .ok (.iconst 0, 1) := by decide +kernel
theorem dX6_isText_2 : decode cX6_isText 2 = .ok (.putfield 110, 3) := by decide +kernel
theorem dX6_isText_5 : decode cX6_isText 5 = .ok (.aload_n 0, 1) := by decide +kernel
theorem dX6_isText_6 : decode cX6_isText 6 = .ok (.iconst 0, 1) := by decide +kernel
theorem dX6_isText_7 : decode cX6_isText 7 = .ok (.putfield 113, 3) := by decide +kernel
theorem dX6_isText_10 : decode cX6_isText 10 = .ok (.iconst 0, 1) := by decide +kernel
theorem dX6_isText_11 : decode cX6_isText 11 = .ok (.istore_n 1, 1) := by decide +kernel
theorem dX6_isText_12 : decode cX6_isText 12 = .ok (.iload_n 1, 1) := by decide +kernel
theorem dX6_isText_13 : decode cX6_isText 13 = .ok (.iconst 3, 1) := by decide +kernel
theorem dX6_isText_14 : decode cX6_isText 14 = .ok (.if_icmp .ge 19, 3) := by decide +kernel
theorem dX6_isText_17 : decode cX6_isText 17 = .ok (.aload_n 0, 1) := by decide +kernel
theorem dX6_isText_18 : decode cX6_isText 18 = .ok (.getfield 22, 3) := by decide +kernel
theorem dX6_isText_21 : decode cX6_isText 21 = .ok (.bipush 9, 2) := by decide +kernel
theorem dX6_isText_23 : decode cX6_isText 23 = .ok (.iload_n 1, 1) := by decide +kernel
theorem dX6_isText_24 : decode cX6_isText 24 = .ok (.imul, 1) := by decide +kernel
theorem dX6_isText_25 : decode cX6_isText 25 = .ok (.iconst 0, 1) := by decide +kernel
theorem dX6_isText_26 : decode cX6_isText 26 = .ok (.iastore, 1) := by decide +kernel
theorem dX6_isText_27 : decode cX6_isText 27 = .ok (.iinc 1 1, 3) := by decide +kernel
theorem dX6_isText_30 : decode cX6_isText 30 = .ok (.goto (-18), 3) := by decide +kernel
theorem dX6_isText_33 : decode cX6_isText 33 = .ok (.iconst 1, 1) := by decide +kernel
theorem dX6_isText_34 : decode cX6_isText 34 = .ok (.istore_n 1, 1) := by decide +kernel
theorem dX6_isText_35 : decode cX6_isText 35 = .ok (.iload_n 1, 1) := by decide +kernel
theorem dX6_isText_36 : decode cX6_isText 36 = .ok (.ifCond .eq 42, 3) := by decide +kernel
theorem dX6_isText_39 : decode cX6_isText 39 = .ok (.aload_n 0, 1) := by decide +kernel
theorem dX6_isText_40 : decode cX6_isText 40 = .ok (.invokevirtual 124, 3) := by decide +kernel
theorem dX6_isText_43 : decode cX6_isText 43 = .ok (.ifCond .ne 5, 3) := by decide +kernel
theorem dX6_isText_46 : decode cX6_isText 46 = .ok (.iconst 0, 1) := by decide +kernel
theorem dX6_isText_47 : decode cX6_isText 47 = .ok (.ireturn, 1) := by decide +kernel
theorem dX6_isText_48 : decode cX6_isText 48 = .ok (.aload_n 0, 1) := by decide +kernel
theorem dX6_isText_49 : decode cX6_isText 49 = .ok (.bipush 59, 2) := by decide +kernel
theorem dX6_isText_51 : decode cX6_isText 51 = .ok (.bipush 59, 2) := by decide +kernel
theorem dX6_isText_53 : decode cX6_isText 53 = .ok (.invokevirtual 117, 3) := by decide +kernel
theorem dX6_isText_56 : decode cX6_isText 56 = .ok (.istore_n 1, 1) := by decide +kernel
theorem dX6_isText_57 : decode cX6_isText 57 = .ok (.aload_n 0, 1) := by decide +kernel
theorem dX6_isText_58 : decode cX6_isText 58 = .ok (.dup, 1) := by decide +kernel
theorem dX6_isText_59 : decode cX6_isText 59 = .ok (.getfield 110, 3) := by decide +kernel
theorem dX6_isText_62 : decode cX6_isText 62 = .ok (.iload_n 1, 1) := by decide +kernel
theorem dX6_isText_63 : decode cX6_isText 63 = .ok (.ifCond .eq 7, 3) := by decide +kernel
theorem dX6_isText_66 : decode cX6_isText 66 = .ok (.iconst 1, 1) := by decide +kernel
theorem dX6_isText_67 : decode cX6_isText 67 = .ok (.goto 4, 3) := by decide +kernel
theorem dX6_isText_70 : decode cX6_isText 70 = .ok (.iconst 0, 1) := by decide +kernel
theorem dX6_isText_71 : decode cX6_isText 71 = .ok (.iadd, 1) := by decide +kernel
theorem dX6_isText_72 : decode cX6_isText 72 = .ok (.putfield 110, 3) := by decide +kernel
theorem dX6_isText_75 : decode cX6_isText 75 = .ok (.goto (-40), 3) := by decide +kernel
theorem dX6_isText_78 : decode cX6_isText 78 = .ok (.aload_n 0, 1) := by decide +kernel
theorem dX6_isText_79 : decode cX6_isText 79 = .ok (.aload_n 0, 1) := by decide +kernel
theorem dX6_isText_80 : decode cX6_isText 80 = .ok (.getfield 110, 3) := by decide +kernel
theorem dX6_isText_83 : decode cX6_isText 83 = .ok (.aload_n 0, 1) := by decide +kernel
theorem dX6_isText_84 : decode cX6_isText 84 = .ok (.getfield 107, 3) := by decide +kernel
theorem dX6_isText_87 : decode cX6_isText 87 = .ok (.if_icmp .ge 7, 3) := by decide +kernel
theorem dX6_isText_90 : decode cX6_isText 90 = .ok (.iconst 1, 1) := by decide +kernel
theorem dX6_isText_91 : decode cX6_isText 91 = .ok (.goto 4, 3) := by decide +kernel
theorem dX6_isText_94 : decode cX6_isText 94 = .ok (.iconst 0, 1) := by decide +kernel
theorem dX6_isText_95 : decode cX6_isText 95 = .ok (.putfield 113, 3) := by decide +kernel
theorem dX6_isText_98 : decode cX6_isText 98 = .ok (.aload_n 0, 1) := by decide +kernel
theorem dX6_isText_99 : decode cX6_isText 99 = .ok (.getfield 110, 3) := by decide +kernel
theorem dX6_isText_102 : decode cX6_isText 102 = .ok (.aload_n 0, 1) := by decide +kernel
theorem dX6_isText_103 : decode cX6_isText 103 = .ok (.getfield 107, 3) := by decide +kernel
theorem dX6_isText_106 : decode cX6_isText 106 = .ok (.if_icmp .ne 7, 3) := by decide +kernel
theorem dX6_isText_109 : decode cX6_isText 109 = .ok (.iconst 1, 1) := by decide +kernel
theorem dX6_isText_110 : decode cX6_isText 110 = .ok (.goto 4, 3) := by decide +kernel
theorem dX6_isText_113 : decode cX6_isText 113 = .ok (.iconst 0, 1) := by decide +kernel
theorem dX6_isText_114 : decode cX6_isText 114 = .ok (.ireturn, 1) := by decide +kernel
theorem dX6_firstError_0 : decode cX6_firstError 0 = .ok (.aload_n 0, 1) := by decide +kernel
theorem dX6_firstError_1 : decode cX6_firstError 1 = .ok (.iconst 0, 1) := by decide +kernel
theorem dX6_firstError_2 : decode cX6_firstError 2 = .ok (.putfield 28, 3) := by decide +kernel
theorem dX6_firstError_5 : decode cX6_firstError 5 = .ok (.aload_n 0, 1) := by decide +kernel
theorem dX6_firstError_6 : decode cX6_firstError 6 = .ok (.invokevirtual 127, 3) := by decide +kernel
theorem dX6_firstError_9 : decode cX6_firstError 9 = .ok (.istore_n 1, 1) := by decide +kernel
theorem dX6_firstError_10 : decode cX6_firstError 10 = .ok (.iload_n 1, 1) := by decide +kernel
theorem dX6_firstError_11 : decode cX6_firstError 11 = .ok (.ifCond .ne 17, 3) := by decide +kernel
theorem dX6_firstError_14 : decode cX6_firstError 14 = .ok (.aload_n 0, 1) := by decide +kernel
theorem dX6_firstError_15 : decode cX6_firstError 15 = .ok (.getfield 113, 3) := by decide +kernel
theorem dX6_firstError_18 : decode cX6_firstError 18 = .ok (.ifCond .eq 10, 3) := by decide +kernel
theorem dX6_firstError_21 : decode cX6_firstError 21 = .ok (.aload_n 0, 1) := by decide +kernel
theorem dX6_firstError_22 : decode cX6_firstError 22 = .ok (.getfield 110, 3) := by decide +kernel
theorem dX6_firstError_25 : decode cX6_firstError 25 = .ok (.goto 7, 3) := by decide +kernel
theorem dX6_firstError_28 : decode cX6_firstError 28 = .ok (.aload_n 0, 1) := by decide +kernel
theorem dX6_firstError_29 : decode cX6_firstError 29 = .ok (.getfield 107, 3) := by decide +kernel
theorem dX6_firstError_32 : decode cX6_firstError 32 = .ok (.ireturn, 1) := by decide +kernel
theorem dX6_rounds_0 : decode cX6_rounds 0 = .ok (.aload_n 0, 1) := by decide +kernel
theorem dX6_rounds_1 : decode cX6_rounds 1 = .ok (.iconst 0, 1) := by decide +kernel
theorem dX6_rounds_2 : decode cX6_rounds 2 = .ok (.putfield 28, 3) := by decide +kernel
theorem dX6_rounds_5 : decode cX6_rounds 5 = .ok (.aload_n 0, 1) := by decide +kernel
theorem dX6_rounds_6 : decode cX6_rounds 6 = .ok (.invokevirtual 127, 3) := by decide +kernel
theorem dX6_rounds_9 : decode cX6_rounds 9 = .ok (.ifCond .ne 9, 3) := by decide +kernel
theorem dX6_rounds_12 : decode cX6_rounds 12 = .ok (.aload_n 0, 1) := by decide +kernel
theorem dX6_rounds_13 : decode cX6_rounds 13 = .ok (.iconst 1, 1) := by decide +kernel
theorem dX6_rounds_14 : decode cX6_rounds 14 = .ok (.invokevirtual 43, 3) := by decide +kernel
theorem dX6_rounds_17 : decode cX6_rounds 17 = .ok (.ireturn, 1) := by decide +kernel
theorem dX6_rounds_18 : decode cX6_rounds 18 = .ok (.aload_n 0, 1) := by decide +kernel
theorem dX6_rounds_19 : decode cX6_rounds 19 = .ok (.invokevirtual 83, 3) := by decide +kernel
theorem dX6_rounds_22 : decode cX6_rounds 22 = .ok (.aload_n 0, 1) := by decide +kernel
theorem dX6_rounds_23 : decode cX6_rounds 23 = .ok (.iconst 0, 1) := by decide +kernel
theorem dX6_rounds_24 : decode cX6_rounds 24 = .ok (.putfield 107, 3) := by decide +kernel
theorem dX6_rounds_27 : decode cX6_rounds 27 = .ok (.iconst 0, 1) := by decide +kernel
theorem dX6_rounds_28 : decode cX6_rounds 28 = .ok (.istore_n 1, 1) := by decide +kernel
theorem dX6_rounds_29 : decode cX6_rounds 29 = .ok (.iload_n 1, 1) := by decide +kernel
theorem dX6_rounds_30 : decode cX6_rounds 30 = .ok (.iconst 3, 1) := by decide +kernel
theorem dX6_rounds_31 : decode cX6_rounds 31 = .ok (.if_icmp .ge 60, 3) := by decide +kernel
theorem dX6_rounds_34 : decode cX6_rounds 34 = .ok (.iconst 0, 1) := by decide +kernel
theorem dX6_rounds_35 : decode cX6_rounds 35 = .ok (.istore_n 2, 1) := by decide +kernel
theorem dX6_rounds_36 : decode cX6_rounds 36 = .ok (.iload_n 2, 1) := by decide +kernel
theorem dX6_rounds_37 : decode cX6_rounds 37 = .ok (.bipush 9, 2) := by decide +kernel
theorem dX6_rounds_39 : decode cX6_rounds 39 = .ok (.if_icmp .ge 46, 3) := by decide +kernel
theorem dX6_rounds_42 : decode cX6_rounds 42 = .ok (.aload_n 0, 1) := by decide +kernel
theorem dX6_rounds_43 : decode cX6_rounds 43 = .ok (.getfield 22, 3) := by decide +kernel
theorem dX6_rounds_46 : decode cX6_rounds 46 = .ok (.bipush 9, 2) := by decide +kernel
theorem dX6_rounds_48 : decode cX6_rounds 48 = .ok (.iload_n 1, 1) := by decide +kernel
theorem dX6_rounds_49 : decode cX6_rounds 49 = .ok (.imul, 1) := by decide +kernel
theorem dX6_rounds_50 : decode cX6_rounds 50 = .ok (.iaload, 1) := by decide +kernel
theorem dX6_rounds_51 : decode cX6_rounds 51 = .ok (.ifCond .le 34, 3) := by decide +kernel
theorem dX6_rounds_54 : decode cX6_rounds 54 = .ok (.aload_n 0, 1) := by decide +kernel
theorem dX6_rounds_55 : decode cX6_rounds 55 = .ok (.getfield 7, 3) := by decide +kernel
theorem dX6_rounds_58 : decode cX6_rounds 58 = .ok (.bipush 84, 2) := by decide +kernel
theorem dX6_rounds_60 : decode cX6_rounds 60 = .ok (.bipush 9, 2) := by decide +kernel
theorem dX6_rounds_62 : decode cX6_rounds 62 = .ok (.iload_n 1, 1) := by decide +kernel
theorem dX6_rounds_63 : decode cX6_rounds 63 = .ok (.imul, 1) := by decide +kernel
theorem dX6_rounds_64 : decode cX6_rounds 64 = .ok (.iadd, 1) := by decide +kernel
theorem dX6_rounds_65 : decode cX6_rounds 65 = .ok (.iload_n 2, 1) := by decide +kernel
theorem dX6_rounds_66 : decode cX6_rounds 66 = .ok (.iadd, 1) := by decide +kernel
theorem dX6_rounds_67 : decode cX6_rounds 67 = .ok (.aload_n 0, 1) := by decide +kernel
theorem dX6_rounds_68 : decode cX6_rounds 68 = .ok (.getfield 22, 3) := by decide +kernel
theorem dX6_rounds_71 : decode cX6_rounds 71 = .ok (.bipush 9, 2) := by decide +kernel
theorem dX6_rounds_73 : decode cX6_rounds 73 = .ok (.iload_n 1, 1) := by decide +kernel
theorem dX6_rounds_74 : decode cX6_rounds 74 = .ok (.imul, 1) := by decide +kernel
theorem dX6_rounds_75 : decode cX6_rounds 75 = .ok (.iload_n 2, 1) := by decide +kernel
theorem dX6_rounds_76 : decode cX6_rounds 76 = .ok (.iadd, 1) := by decide +kernel
theorem dX6_rounds_77 : decode cX6_rounds 77 = .ok (.iaload, 1) := by decide +kernel
theorem dX6_rounds_78 : decode cX6_rounds 78 = .ok (.iastore, 1) := by decide +kernel
theorem dX6_rounds_79 : decode cX6_rounds 79 = .ok (.iinc 2 1, 3) := by decide +kernel
theorem dX6_rounds_82 : decode cX6_rounds 82 = .ok (.goto (-46), 3) := by decide +kernel
theorem dX6_rounds_85 : decode cX6_rounds 85 = .ok (.iinc 1 1, 3) := by decide +kernel
theorem dX6_rounds_88 : decode cX6_rounds 88 = .ok (.goto (-59), 3) := by decide +kernel
theorem dX6_rounds_91 : decode cX6_rounds 91 = .ok (.aload_n 0, 1) := by decide +kernel
theorem dX6_rounds_92 : decode cX6_rounds 92 = .ok (.getfield 7, 3) := by decide +kernel
theorem dX6_rounds_95 : decode cX6_rounds 95 = .ok (.invokestatic 130, 3) := by decide +kernel
theorem dX6_rounds_98 : decode cX6_rounds 98 = .ok (.ireturn, 1) := by decide +kernel
theorem dX6_ofStreet_0 : decode cX6_ofStreet 0 = .ok (.iload_n 2, 1) := by decide +kernel
theorem dX6_ofStreet_1 : decode cX6_ofStreet 1 = .ok (.tableswitch 81 0 4 #[35, 35, 45, 62, 72], 35) := by decide +kernel
theorem dX6_ofStreet_36 : decode cX6_ofStreet 36 = .ok (.aload_n 0, 1) := by decide +kernel
theorem dX6_ofStreet_37 : decode cX6_ofStreet 37 = .ok (.getfield 7, 3) := by decide +kernel
theorem dX6_ofStreet_40 : decode cX6_ofStreet 40 = .ok (.iload_n 1, 1) := by decide +kernel
theorem dX6_ofStreet_41 : decode cX6_ofStreet 41 = .ok (.iload_n 2, 1) := by decide +kernel
theorem dX6_ofStreet_42 : decode cX6_ofStreet 42 = .ok (.invokestatic 47, 3) := by decide +kernel
theorem dX6_ofStreet_45 : decode cX6_ofStreet 45 = .ok (.ireturn, 1) := by decide +kernel
theorem dX6_ofStreet_46 : decode cX6_ofStreet 46 = .ok (.aload_n 0, 1) := by decide +kernel
theorem dX6_ofStreet_47 : decode cX6_ofStreet 47 = .ok (.getfield 7, 3) := by decide +kernel
theorem dX6_ofStreet_50 : decode cX6_ofStreet 50 = .ok (.iload_n 1, 1) := by decide +kernel
theorem dX6_ofStreet_51 : decode cX6_ofStreet 51 = .ok (.invokestatic 67, 3) := by decide +kernel
theorem dX6_ofStreet_54 : decode cX6_ofStreet 54 = .ok (.ifCond .eq 7, 3) := by decide +kernel
theorem dX6_ofStreet_57 : decode cX6_ofStreet 57 = .ok (.iconst 1, 1) := by decide +kernel
theorem dX6_ofStreet_58 : decode cX6_ofStreet 58 = .ok (.goto 4, 3) := by decide +kernel
theorem dX6_ofStreet_61 : decode cX6_ofStreet 61 = .ok (.iconst 0, 1) := by decide +kernel
theorem dX6_ofStreet_62 : decode cX6_ofStreet 62 = .ok (.ireturn, 1) := by decide +kernel
theorem dX6_ofStreet_63 : decode cX6_ofStreet 63 = .ok (.aload_n 0, 1) := by decide +kernel
theorem dX6_ofStreet_64 : decode cX6_ofStreet 64 = .ok (.getfield 7, 3) := by decide +kernel
theorem dX6_ofStreet_67 : decode cX6_ofStreet 67 = .ok (.iload_n 1, 1) := by decide +kernel
theorem dX6_ofStreet_68 : decode cX6_ofStreet 68 = .ok (.iconst 0, 1) := by decide +kernel
theorem dX6_ofStreet_69 : decode cX6_ofStreet 69 = .ok (.invokestatic 64, 3) := by decide +kernel
theorem dX6_ofStreet_72 : decode cX6_ofStreet 72 = .ok (.ireturn, 1) := by decide +kernel
theorem dX6_ofStreet_73 : decode cX6_ofStreet 73 = .ok (.aload_n 0, 1) := by decide +kernel
theorem dX6_ofStreet_74 : decode cX6_ofStreet 74 = .ok (.getfield 7, 3) := by decide +kernel
theorem dX6_ofStreet_77 : decode cX6_ofStreet 77 = .ok (.iload_n 1, 1) := by decide +kernel
theorem dX6_ofStreet_78 : decode cX6_ofStreet 78 = .ok (.invokestatic 61, 3) := by decide +kernel
theorem dX6_ofStreet_81 : decode cX6_ofStreet 81 = .ok (.ireturn, 1) := by decide +kernel
theorem dX6_ofStreet_82 : decode cX6_ofStreet 82 = .ok (.aload_n 0, 1) := by decide +kernel

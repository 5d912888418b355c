theorem dX7_readStatement_20 : decode cX7_readStatement 20 = .ok (.aload_n 0, 1) := by decide +kernel
theorem dX7_readStatement_21 : decode cX7_readStatement 21 = .ok (.getfield 268, 3) := by decide +kernel
theorem dX7_readStatement_24 : decode cX7_readStatement 24 = .ok (.iastore, 1) := by decide +kernel
theorem dX7_readStatement_25 : decode cX7_readStatement 25 = .ok (.aload_n 0, 1) := by decide +kernel
theorem dX7_readStatement_26 : decode cX7_readStatement 26 = .ok (.getfield 96, 3) := by decide +kernel
theorem dX7_readStatement_29 : decode cX7_readStatement 29 = .ok (.aload_n 0, 1) := by decide +kernel
theorem dX7_readStatement_30 : decode cX7_readStatement 30 = .ok (.getfield 292, 3) := by decide +kernel
theorem dX7_readStatement_33 : decode cX7_readStatement 33 = .ok (.iload_n 1, 1) := by decide +kernel
theorem dX7_readStatement_34 : decode cX7_readStatement 34 = .ok (.iastore, 1) := by decide +kernel
theorem dX7_readStatement_35 : decode cX7_readStatement 35 = .ok (.aload_n 0, 1) := by decide +kernel
theorem dX7_readStatement_36 : decode cX7_readStatement 36 = .ok (.iload_n 1, 1) := by decide +kernel
theorem dX7_readStatement_37 : decode cX7_readStatement 37 = .ok (.bipush 99, 2) := by decide +kernel
theorem dX7_readStatement_39 : decode cX7_readStatement 39 = .ok (.if_icmp .eq 21, 3) := by decide +kernel
theorem dX7_readStatement_42 : decode cX7_readStatement 42 = .ok (.iload_n 1, 1) := by decide +kernel
theorem dX7_readStatement_43 : decode cX7_readStatement 43 = .ok (.bipush 119, 2) := by decide +kernel
theorem dX7_readStatement_45 : decode cX7_readStatement 45 = .ok (.if_icmp .eq 15, 3) := by decide +kernel
theorem dX7_readStatement_48 : decode cX7_readStatement 48 = .ok (.iload_n 1, 1) := by decide +kernel
theorem dX7_readStatement_49 : decode cX7_readStatement 49 = .ok (.bipush 114, 2) := by decide +kernel
theorem dX7_readStatement_51 : decode cX7_readStatement 51 = .ok (.if_icmp .eq 9, 3) := by decide +kernel
theorem dX7_readStatement_54 : decode cX7_readStatement 54 = .ok (.iload_n 1, 1) := by decide +kernel
theorem dX7_readStatement_55 : decode cX7_readStatement 55 = .ok (.bipush 109, 2) := by decide +kernel
theorem dX7_readStatement_57 : decode cX7_readStatement 57 = .ok (.if_icmp .ne 7, 3) := by decide +kernel
theorem dX7_readStatement_60 : decode cX7_readStatement 60 = .ok (.iconst 1, 1) := by decide +kernel
theorem dX7_readStatement_61 : decode cX7_readStatement 61 = .ok (.goto 4, 3) := by decide +kernel
theorem dX7_readStatement_64 : decode cX7_readStatement 64 = .ok (.iconst 0, 1) := by decide +kernel
theorem dX7_readStatement_65 : decode cX7_readStatement 65 = .ok (.invokevirtual 285, 3) := by decide +kernel
theorem dX7_readStatement_68 : decode cX7_readStatement 68 = .ok (.aload_n 0, 1) := by decide +kernel
theorem dX7_readStatement_69 : decode cX7_readStatement 69 = .ok (.getfield 274, 3) := by decide +kernel
theorem dX7_readStatement_72 : decode cX7_readStatement 72 = .ok (.ifCond .ne 60, 3) := by decide +kernel
theorem dX7_readStatement_75 : decode cX7_readStatement 75 = .ok (.iload_n 1, 1) := by decide +kernel
theorem dX7_readStatement_76 : decode cX7_readStatement 76 = .ok (.bipush 99, 2) := by decide +kernel
theorem dX7_readStatement_78 : decode cX7_readStatement 78 = .ok (.if_icmp .ne 54, 3) := by decide +kernel
theorem dX7_readStatement_81 : decode cX7_readStatement 81 = .ok (.aload_n 0, 1) := by decide +kernel
theorem dX7_readStatement_82 : decode cX7_readStatement 82 = .ok (.getfield 99, 3) := by decide +kernel
theorem dX7_readStatement_85 : decode cX7_readStatement 85 = .ok (.iload_n 2, 1) := by decide +kernel
theorem dX7_readStatement_86 : decode cX7_readStatement 86 = .ok (.aload_n 0, 1) := by decide +kernel
theorem dX7_readStatement_87 : decode cX7_readStatement 87 = .ok (.invokevirtual 295, 3) := by decide +kernel
theorem dX7_readStatement_90 : decode cX7_readStatement 90 = .ok (.iastore, 1) := by decide +kernel
theorem dX7_readStatement_91 : decode cX7_readStatement 91 = .ok (.aload_n 0, 1) := by decide +kernel
theorem dX7_readStatement_92 : decode cX7_readStatement 92 = .ok (.aload_n 0, 1) := by decide +kernel
theorem dX7_readStatement_93 : decode cX7_readStatement 93 = .ok (.invokevirtual 278, 3) := by decide +kernel
theorem dX7_readStatement_96 : decode cX7_readStatement 96 = .ok (.bipush 44, 2) := by decide +kernel
theorem dX7_readStatement_98 : decode cX7_readStatement 98 = .ok (.if_icmp .ne 7, 3) := by decide +kernel
theorem dX7_readStatement_101 : decode cX7_readStatement 101 = .ok (.iconst 1, 1) := by decide +kernel
theorem dX7_readStatement_102 : decode cX7_readStatement 102 = .ok (.goto 4, 3) := by decide +kernel
theorem dX7_readStatement_105 : decode cX7_readStatement 105 = .ok (.iconst 0, 1) := by decide +kernel
theorem dX7_readStatement_106 : decode cX7_readStatement 106 = .ok (.invokevirtual 285, 3) := by decide +kernel
theorem dX7_readStatement_109 : decode cX7_readStatement 109 = .ok (.aload_n 0, 1) := by decide +kernel
theorem dX7_readStatement_110 : decode cX7_readStatement 110 = .ok (.getfield 99, 3) := by decide +kernel
theorem dX7_readStatement_113 : decode cX7_readStatement 113 = .ok (.iload_n 2, 1) := by decide +kernel
theorem dX7_readStatement_114 : decode cX7_readStatement 114 = .ok (.iconst 1, 1) := by decide +kernel
theorem dX7_readStatement_115 : decode cX7_readStatement 115 = .ok (.iadd, 1) := by decide +kernel
theorem dX7_readStatement_116 : decode cX7_readStatement 116 = .ok (.aload_n 0, 1) := by decide +kernel
theorem dX7_readStatement_117 : decode cX7_readStatement 117 = .ok (.getfield 274, 3) := by decide +kernel
theorem dX7_readStatement_120 : decode cX7_readStatement 120 = .ok (.ifCond .eq 7, 3) := by decide +kernel
theorem dX7_readStatement_123 : decode cX7_readStatement 123 = .ok (.iconst 0, 1) := by decide +kernel
theorem dX7_readStatement_124 : decode cX7_readStatement 124 = .ok (.goto 7, 3) := by decide +kernel
theorem dX7_readStatement_127 : decode cX7_readStatement 127 = .ok (.aload_n 0, 1) := by decide +kernel
theorem dX7_readStatement_128 : decode cX7_readStatement 128 = .ok (.invokevirtual 295, 3) := by decide +kernel
theorem dX7_readStatement_131 : decode cX7_readStatement 131 = .ok (.iastore, 1) := by decide +kernel
theorem dX7_readStatement_132 : decode cX7_readStatement 132 = .ok (.aload_n 0, 1) := by decide +kernel
theorem dX7_readStatement_133 : decode cX7_readStatement 133 = .ok (.getfield 274, 3) := by decide +kernel
theorem dX7_readStatement_136 : decode cX7_readStatement 136 = .ok (.ifCond .ne 119, 3) := by decide +kernel
theorem dX7_readStatement_139 : decode cX7_readStatement 139 = .ok (.iload_n 1, 1) := by decide +kernel
theorem dX7_readStatement_140 : decode cX7_readStatement 140 = .ok (.bipush 119, 2) := by decide +kernel
theorem dX7_readStatement_142 : decode cX7_readStatement 142 = .ok (.if_icmp .ne 113, 3) := by decide +kernel
theorem dX7_readStatement_145 : decode cX7_readStatement 145 = .ok (.aload_n 0, 1) := by decide +kernel
theorem dX7_readStatement_146 : decode cX7_readStatement 146 = .ok (.getfield 99, 3) := by decide +kernel
theorem dX7_readStatement_149 : decode cX7_readStatement 149 = .ok (.iload_n 2, 1) := by decide +kernel
theorem dX7_readStatement_150 : decode cX7_readStatement 150 = .ok (.aload_n 0, 1) := by decide +kernel
theorem dX7_readStatement_151 : decode cX7_readStatement 151 = .ok (.invokevirtual 289, 3) := by decide +kernel
theorem dX7_readStatement_154 : decode cX7_readStatement 154 = .ok (.iastore, 1) := by decide +kernel
theorem dX7_readStatement_155 : decode cX7_readStatement 155 = .ok (.aload_n 0, 1) := by decide +kernel
theorem dX7_readStatement_156 : decode cX7_readStatement 156 = .ok (.getfield 99, 3) := by decide +kernel
theorem dX7_readStatement_159 : decode cX7_readStatement 159 = .ok (.iload_n 2, 1) := by decide +kernel
theorem dX7_readStatement_160 : decode cX7_readStatement 160 = .ok (.iconst 1, 1) := by decide +kernel
theorem dX7_readStatement_161 : decode cX7_readStatement 161 = .ok (.iadd, 1) := by decide +kernel
theorem dX7_readStatement_162 : decode cX7_readStatement 162 = .ok (.aload_n 0, 1) := by decide +kernel
theorem dX7_readStatement_163 : decode cX7_readStatement 163 = .ok (.getfield 274, 3) := by decide +kernel
theorem dX7_readStatement_166 : decode cX7_readStatement 166 = .ok (.ifCond .eq 7, 3) := by decide +kernel
theorem dX7_readStatement_169 : decode cX7_readStatement 169 = .ok (.iconst 0, 1) := by decide +kernel
theorem dX7_readStatement_170 : decode cX7_readStatement 170 = .ok (.goto 7, 3) := by decide +kernel
theorem dX7_readStatement_173 : decode cX7_readStatement 173 = .ok (.aload_n 0, 1) := by decide +kernel
theorem dX7_readStatement_174 : decode cX7_readStatement 174 = .ok (.invokevirtual 289, 3) := by decide +kernel
theorem dX7_readStatement_177 : decode cX7_readStatement 177 = .ok (.iastore, 1) := by decide +kernel
theorem dX7_readStatement_178 : decode cX7_readStatement 178 = .ok (.aload_n 0, 1) := by decide +kernel
theorem dX7_readStatement_179 : decode cX7_readStatement 179 = .ok (.getfield 99, 3) := by decide +kernel
theorem dX7_readStatement_182 : decode cX7_readStatement 182 = .ok (.iload_n 2, 1) := by decide +kernel
theorem dX7_readStatement_183 : decode cX7_readStatement 183 = .ok (.iconst 2, 1) := by decide +kernel
theorem dX7_readStatement_184 : decode cX7_readStatement 184 = .ok (.iadd, 1) := by decide +kernel
theorem dX7_readStatement_185 : decode cX7_readStatement 185 = .ok (.aload_n 0, 1) := by decide +kernel
theorem dX7_readStatement_186 : decode cX7_readStatement 186 = .ok (.getfield 274, 3) := by decide +kernel
theorem dX7_readStatement_189 : decode cX7_readStatement 189 = .ok (.ifCond .eq 7, 3) := by decide +kernel
theorem dX7_readStatement_192 : decode cX7_readStatement 192 = .ok (.iconst 0, 1) := by decide +kernel
theorem dX7_readStatement_193 : decode cX7_readStatement 193 = .ok (.goto 11, 3) := by decide +kernel
theorem dX7_readStatement_196 : decode cX7_readStatement 196 = .ok (.aload_n 0, 1) := by decide +kernel
theorem dX7_readStatement_197 : decode cX7_readStatement 197 = .ok (.bipush 115, 2) := by decide +kernel
theorem dX7_readStatement_199 : decode cX7_readStatement 199 = .ok (.bipush 110, 2) := by decide +kernel
theorem dX7_readStatement_201 : decode cX7_readStatement 201 = .ok (.invokevirtual 298, 3) := by decide +kernel
theorem dX7_readStatement_204 : decode cX7_readStatement 204 = .ok (.iastore, 1) := by decide +kernel
theorem dX7_readStatement_205 : decode cX7_readStatement 205 = .ok (.aload_n 0, 1) := by decide +kernel
theorem dX7_readStatement_206 : decode cX7_readStatement 206 = .ok (.getfield 99, 3) := by decide +kernel
theorem dX7_readStatement_209 : decode cX7_readStatement 209 = .ok (.iload_n 2, 1) := by decide +kernel
theorem dX7_readStatement_210 : decode cX7_readStatement 210 = .ok (.iconst 3, 1) := by decide +kernel
theorem dX7_readStatement_211 : decode cX7_readStatement 211 = .ok (.iadd, 1) := by decide +kernel
theorem dX7_readStatement_212 : decode cX7_readStatement 212 = .ok (.aload_n 0, 1) := by decide +kernel
theorem dX7_readStatement_213 : decode cX7_readStatement 213 = .ok (.getfield 274, 3) := by decide +kernel
theorem dX7_readStatement_216 : decode cX7_readStatement 216 = .ok (.ifCond .eq 7, 3) := by decide +kernel
theorem dX7_readStatement_219 : decode cX7_readStatement 219 = .ok (.iconst 0, 1) := by decide +kernel
theorem dX7_readStatement_220 : decode cX7_readStatement 220 = .ok (.goto 11, 3) := by decide +kernel
theorem dX7_readStatement_223 : decode cX7_readStatement 223 = .ok (.aload_n 0, 1) := by decide +kernel
theorem dX7_readStatement_224 : decode cX7_readStatement 224 = .ok (.bipush 83, 2) := by decide +kernel
theorem dX7_readStatement_226 : decode cX7_readStatement 226 = .ok (.bipush 77, 2) := by decide +kernel
theorem dX7_readStatement_228 : decode cX7_readStatement 228 = .ok (.invokevirtual 298, 3) := by decide +kernel
theorem dX7_readStatement_231 : decode cX7_readStatement 231 = .ok (.iastore, 1) := by decide +kernel
theorem dX7_readStatement_232 : decode cX7_readStatement 232 = .ok (.aload_n 0, 1) := by decide +kernel
theorem dX7_readStatement_233 : decode cX7_readStatement 233 = .ok (.getfield 99, 3) := by decide +kernel
theorem dX7_readStatement_236 : decode cX7_readStatement 236 = .ok (.iload_n 2, 1) := by decide +kernel
theorem dX7_readStatement_237 : decode cX7_readStatement 237 = .ok (.iconst 4, 1) := by decide +kernel
theorem dX7_readStatement_238 : decode cX7_readStatement 238 = .ok (.iadd, 1) := by decide +kernel
theorem dX7_readStatement_239 : decode cX7_readStatement 239 = .ok (.aload_n 0, 1) := by decide +kernel
theorem dX7_readStatement_240 : decode cX7_readStatement 240 = .ok (.getfield 274, 3) := by decide +kernel
theorem dX7_readStatement_243 : decode cX7_readStatement 243 = .ok (.ifCond .eq 7, 3) := by decide +kernel
theorem dX7_readStatement_246 : decode cX7_readStatement 246 = .ok (.iconst 0, 1) := by decide +kernel
theorem dX7_readStatement_247 : decode cX7_readStatement 247 = .ok (.goto 7, 3) := by decide +kernel
theorem dX7_readStatement_250 : decode cX7_readStatement 250 = .ok (.aload_n 0, 1) := by decide +kernel
theorem dX7_readStatement_251 : decode cX7_readStatement 251 = .ok (.invokevirtual 295, 3) := by decide +kernel
theorem dX7_readStatement_254 : decode cX7_readStatement 254 = .ok (.iastore, 1) := by decide +kernel
theorem dX7_readStatement_255 : decode cX7_readStatement 255 = .ok (.aload_n 0, 1) := by decide +kernel
theorem dX7_readStatement_256 : decode cX7_readStatement 256 = .ok (.getfield 274, 3) := by decide +kernel
theorem dX7_readStatement_259 : decode cX7_readStatement 259 = .ok (.ifCond .ne 69, 3) := by decide +kernel
theorem dX7_readStatement_262 : decode cX7_readStatement 262 = .ok (.iload_n 1, 1) := by decide +kernel
theorem dX7_readStatement_263 : decode cX7_readStatement 263 = .ok (.bipush 114, 2) := by decide +kernel
theorem dX7_readStatement_265 : decode cX7_readStatement 265 = .ok (.if_icmp .ne 63, 3) := by decide +kernel
theorem dX7_readStatement_268 : decode cX7_readStatement 268 = .ok (.aload_n 0, 1) := by decide +kernel
theorem dX7_readStatement_269 : decode cX7_readStatement 269 = .ok (.getfield 99, 3) := by decide +kernel
theorem dX7_readStatement_272 : decode cX7_readStatement 272 = .ok (.iload_n 2, 1) := by decide +kernel
theorem dX7_readStatement_273 : decode cX7_readStatement 273 = .ok (.aload_n 0, 1) := by decide +kernel
theorem dX7_readStatement_274 : decode cX7_readStatement 274 = .ok (.invokevirtual 289, 3) := by decide +kernel
theorem dX7_readStatement_277 : decode cX7_readStatement 277 = .ok (.iastore, 1) := by decide +kernel
theorem dX7_readStatement_278 : decode cX7_readStatement 278 = .ok (.aload_n 0, 1) := by decide +kernel
theorem dX7_readStatement_279 : decode cX7_readStatement 279 = .ok (.getfield 99, 3) := by decide +kernel
theorem dX7_readStatement_282 : decode cX7_readStatement 282 = .ok (.iload_n 2, 1) := by decide +kernel
theorem dX7_readStatement_283 : decode cX7_readStatement 283 = .ok (.iconst 1, 1) := by decide +kernel
theorem dX7_readStatement_284 : decode cX7_readStatement 284 = .ok (.iadd, 1) := by decide +kernel
theorem dX7_readStatement_285 : decode cX7_readStatement 285 = .ok (.aload_n 0, 1) := by decide +kernel
theorem dX7_readStatement_286 : decode cX7_readStatement 286 = .ok (.getfield 274, 3) := by decide +kernel
theorem dX7_readStatement_289 : decode cX7_readStatement 289 = .ok (.ifCond .eq 7, 3) := by decide +kernel
theorem dX7_readStatement_292 : decode cX7_readStatement 292 = .ok (.iconst 0, 1) := by decide +kernel
theorem dX7_readStatement_293 : decode cX7_readStatement 293 = .ok (.goto 11, 3) := by decide +kernel
theorem dX7_readStatement_296 : decode cX7_readStatement 296 = .ok (.aload_n 0, 1) := by decide +kernel
theorem dX7_readStatement_297 : decode cX7_readStatement 297 = .ok (.bipush 83, 2) := by decide +kernel
theorem dX7_readStatement_299 : decode cX7_readStatement 299 = .ok (.bipush 77, 2) := by decide +kernel
theorem dX7_readStatement_301 : decode cX7_readStatement 301 = .ok (.invokevirtual 298, 3) := by decide +kernel
theorem dX7_readStatement_304 : decode cX7_readStatement 304 = .ok (.iastore, 1) := by decide +kernel
theorem dX7_readStatement_305 : decode cX7_readStatement 305 = .ok (.aload_n 0, 1) := by decide +kernel
theorem dX7_readStatement_306 : decode cX7_readStatement 306 = .ok (.getfield 99, 3) := by decide +kernel
theorem dX7_readStatement_309 : decode cX7_readStatement 309 = .ok (.iload_n 2, 1) := by decide +kernel
theorem dX7_readStatement_310 : decode cX7_readStatement 310 = .ok (.iconst 2, 1) := by decide +kernel
theorem dX7_readStatement_311 : decode cX7_readStatement 311 = .ok (.iadd, 1) := by decide +kernel
theorem dX7_readStatement_312 : decode cX7_readStatement 312 = .ok (.aload_n 0, 1) := by decide +kernel
theorem dX7_readStatement_313 : decode cX7_readStatement 313 = .ok (.getfield 274, 3) := by decide +kernel
theorem dX7_readStatement_316 : decode cX7_readStatement 316 = .ok (.ifCond .eq 7, 3) := by decide +kernel
theorem dX7_readStatement_319 : decode cX7_readStatement 319 = .ok (.iconst 0, 1) := by decide +kernel
theorem dX7_readStatement_320 : decode cX7_readStatement 320 = .ok (.goto 7, 3) := by decide +kernel
theorem dX7_readStatement_323 : decode cX7_readStatement 323 = .ok (.aload_n 0, 1) := by decide +kernel
theorem dX7_readStatement_324 : decode cX7_readStatement 324 = .ok (.invokevirtual 295, 3) := by decide +kernel
theorem dX7_readStatement_327 : decode cX7_readStatement 327 = .ok (.iastore, 1) := by decide +kernel
theorem dX7_readStatement_328 : decode cX7_readStatement 328 = .ok (.aload_n 0, 1) := by decide +kernel
theorem dX7_readStatement_329 : decode cX7_readStatement 329 = .ok (.getfield 274, 3) := by decide +kernel
theorem dX7_readStatement_332 : decode cX7_readStatement 332 = .ok (.ifCond .ne 111, 3) := by decide +kernel
theorem dX7_readStatement_335 : decode cX7_readStatement 335 = .ok (.iload_n 1, 1) := by decide +kernel
theorem dX7_readStatement_336 : decode cX7_readStatement 336 = .ok (.bipush 109, 2) := by decide +kernel
theorem dX7_readStatement_338 : decode cX7_readStatement 338 = .ok (.if_icmp .ne 105, 3) := by decide +kernel
theorem dX7_readStatement_341 : decode cX7_readStatement 341 = .ok (.aload_n 0, 1) := by decide +kernel
theorem dX7_readStatement_342 : decode cX7_readStatement 342 = .ok (.getfield 99, 3) := by decide +kernel
theorem dX7_readStatement_345 : decode cX7_readStatement 345 = .ok (.iload_n 2, 1) := by decide +kernel
theorem dX7_readStatement_346 : decode cX7_readStatement 346 = .ok (.aload_n 0, 1) := by decide +kernel
theorem dX7_readStatement_347 : decode cX7_readStatement 347 = .ok (.bipush 115, 2) := by decide +kernel
theorem dX7_readStatement_349 : decode cX7_readStatement 349 = .ok (.bipush 110, 2) := by decide +kernel
theorem dX7_readStatement_351 : decode cX7_readStatement 351 = .ok (.invokevirtual 298, 3) := by decide +kernel
theorem dX7_readStatement_354 : decode cX7_readStatement 354 = .ok (.iastore, 1) := by decide +kernel
theorem dX7_readStatement_355 : decode cX7_readStatement 355 = .ok (.aload_n 0, 1) := by decide +kernel
theorem dX7_readStatement_356 : decode cX7_readStatement 356 = .ok (.getfield 99, 3) := by decide +kernel
theorem dX7_readStatement_359 : decode cX7_readStatement 359 = .ok (.iload_n 2, 1) := by decide +kernel
theorem dX7_readStatement_360 : decode cX7_readStatement 360 = .ok (.iconst 1, 1) := by decide +kernel
theorem dX7_readStatement_361 : decode cX7_readStatement 361 = .ok (.iadd, 1) := by decide +kernel
theorem dX7_readStatement_362 : decode cX7_readStatement 362 = .ok (.iconst 1, 1) := by decide +kernel
theorem dX7_readStatement_363 : decode cX7_readStatement 363 = .ok (.iastore, 1) := by decide +kernel
theorem dX7_readStatement_364 : decode cX7_readStatement 364 = .ok (.aload_n 0, 1) := by decide +kernel
theorem dX7_readStatement_365 : decode cX7_readStatement 365 = .ok (.getfield 274, 3) := by decide +kernel
theorem dX7_readStatement_368 : decode cX7_readStatement 368 = .ok (.ifCond .ne 75, 3) := by decide +kernel
theorem dX7_readStatement_371 : decode cX7_readStatement 371 = .ok (.aload_n 0, 1) := by decide +kernel
theorem dX7_readStatement_372 : decode cX7_readStatement 372 = .ok (.getfield 99, 3) := by decide +kernel
theorem dX7_readStatement_375 : decode cX7_readStatement 375 = .ok (.iload_n 2, 1) := by decide +kernel
theorem dX7_readStatement_376 : decode cX7_readStatement 376 = .ok (.iconst 1, 1) := by decide +kernel
theorem dX7_readStatement_377 : decode cX7_readStatement 377 = .ok (.iadd, 1) := by decide +kernel
theorem dX7_readStatement_378 : decode cX7_readStatement 378 = .ok (.iaload, 1) := by decide +kernel
theorem dX7_readStatement_379 : decode cX7_readStatement 379 = .ok (.bipush 28, 2) := by decide +kernel
theorem dX7_readStatement_381 : decode cX7_readStatement 381 = .ok (.if_icmp .ge 62, 3) := by decide +kernel
theorem dX7_readStatement_384 : decode cX7_readStatement 384 = .ok (.aload_n 0, 1) := by decide +kernel
theorem dX7_readStatement_385 : decode cX7_readStatement 385 = .ok (.invokevirtual 278, 3) := by decide +kernel
theorem dX7_readStatement_388 : decode cX7_readStatement 388 = .ok (.bipush 115, 2) := by decide +kernel
theorem dX7_readStatement_390 : decode cX7_readStatement 390 = .ok (.if_icmp .eq 12, 3) := by decide +kernel
theorem dX7_readStatement_393 : decode cX7_readStatement 393 = .ok (.aload_n 0, 1) := by decide +kernel
theorem dX7_readStatement_394 : decode cX7_readStatement 394 = .ok (.invokevirtual 278, 3) := by decide +kernel
theorem dX7_readStatement_397 : decode cX7_readStatement 397 = .ok (.bipush 110, 2) := by decide +kernel
theorem dX7_readStatement_399 : decode cX7_readStatement 399 = .ok (.if_icmp .ne 44, 3) := by decide +kernel
theorem dX7_readStatement_402 : decode cX7_readStatement 402 = .ok (.aload_n 0, 1) := by decide +kernel
theorem dX7_readStatement_403 : decode cX7_readStatement 403 = .ok (.getfield 99, 3) := by decide +kernel
theorem dX7_readStatement_406 : decode cX7_readStatement 406 = .ok (.iload_n 2, 1) := by decide +kernel
theorem dX7_readStatement_407 : decode cX7_readStatement 407 = .ok (.dup2, 1) := by decide +kernel
theorem dX7_readStatement_408 : decode cX7_readStatement 408 = .ok (.iaload, 1) := by decide +kernel
theorem dX7_readStatement_409 : decode cX7_readStatement 409 = .ok (.aload_n 0, 1) := by decide +kernel
theorem dX7_readStatement_410 : decode cX7_readStatement 410 = .ok (.bipush 115, 2) := by decide +kernel
theorem dX7_readStatement_412 : decode cX7_readStatement 412 = .ok (.bipush 110, 2) := by decide +kernel
theorem dX7_readStatement_414 : decode cX7_readStatement 414 = .ok (.invokevirtual 298, 3) := by decide +kernel
theorem dX7_readStatement_417 : decode cX7_readStatement 417 = .ok (.aload_n 0, 1) := by decide +kernel
theorem dX7_readStatement_418 : decode cX7_readStatement 418 = .ok (.getfield 99, 3) := by decide +kernel
theorem dX7_readStatement_421 : decode cX7_readStatement 421 = .ok (.iload_n 2, 1) := by decide +kernel
theorem dX7_readStatement_422 : decode cX7_readStatement 422 = .ok (.iconst 1, 1) := by decide +kernel
theorem dX7_readStatement_423 : decode cX7_readStatement 423 = .ok (.iadd, 1) := by decide +kernel
theorem dX7_readStatement_424 : decode cX7_readStatement 424 = .ok (.iaload, 1) := by decide +kernel
theorem dX7_readStatement_425 : decode cX7_readStatement 425 = .ok (.ishl, 1) := by decide +kernel
theorem dX7_readStatement_426 : decode cX7_readStatement 426 = .ok (.ior, 1) := by decide +kernel
theorem dX7_readStatement_427 : decode cX7_readStatement 427 = .ok (.iastore, 1) := by decide +kernel
theorem dX7_readStatement_428 : decode cX7_readStatement 428 = .ok (.aload_n 0, 1) := by decide +kernel
theorem dX7_readStatement_429 : decode cX7_readStatement 429 = .ok (.getfield 99, 3) := by decide +kernel
theorem dX7_readStatement_432 : decode cX7_readStatement 432 = .ok (.iload_n 2, 1) := by decide +kernel
theorem dX7_readStatement_433 : decode cX7_readStatement 433 = .ok (.iconst 1, 1) := by decide +kernel
theorem dX7_readStatement_434 : decode cX7_readStatement 434 = .ok (.iadd, 1) := by decide +kernel
theorem dX7_readStatement_435 : decode cX7_readStatement 435 = .ok (.dup2, 1) := by decide +kernel
theorem dX7_readStatement_436 : decode cX7_readStatement 436 = .ok (.iaload, 1) := by decide +kernel
theorem dX7_readStatement_437 : decode cX7_readStatement 437 = .ok (.iconst 1, 1) := by decide +kernel
theorem dX7_readStatement_438 : decode cX7_readStatement 438 = .ok (.iadd, 1) := by decide +kernel
theorem dX7_readStatement_439 : decode cX7_readStatement 439 = .ok (.iastore, 1) := by decide +kernel
theorem dX7_readStatement_440 : decode cX7_readStatement 440 = .ok (.goto (-76), 3) := by decide +kernel
theorem dX7_readStatement_443 : decode cX7_readStatement 443 = .ok (.aload_n 0, 1) := by decide +kernel
theorem dX7_readStatement_444 : decode cX7_readStatement 444 = .ok (.aload_n 0, 1) := by decide +kernel
theorem dX7_readStatement_445 : decode cX7_readStatement 445 = .ok (.invokevirtual 278, 3) := by decide +kernel
theorem dX7_readStatement_448 : decode cX7_readStatement 448 = .ok (.bipush 59, 2) := by decide +kernel
theorem dX7_readStatement_450 : decode cX7_readStatement 450 = .ok (.if_icmp .ne 7, 3) := by decide +kernel
theorem dX7_readStatement_453 : decode cX7_readStatement 453 = .ok (.iconst 1, 1) := by decide +kernel
theorem dX7_readStatement_454 : decode cX7_readStatement 454 = .ok (.goto 4, 3) := by decide +kernel
theorem dX7_readStatement_457 : decode cX7_readStatement 457 = .ok (.iconst 0, 1) := by decide +kernel
theorem dX7_readStatement_458 : decode cX7_readStatement 458 = .ok (.invokevirtual 285, 3) := by decide +kernel
theorem dX7_readStatement_461 : decode cX7_readStatement 461 = .ok (.aload_n 0, 1) := by decide +kernel
theorem dX7_readStatement_462 : decode cX7_readStatement 462 = .ok (.dup, 1) := by decide +kernel
theorem dX7_readStatement_463 : decode cX7_readStatement 463 = .ok (.getfield 292, 3) := by decide +kernel
theorem dX7_readStatement_466 : decode cX7_readStatement 466 = .ok (.iconst 1, 1) := by decide +kernel
theorem dX7_readStatement_467 : decode cX7_readStatement 467 = .ok (.iadd, 1) := by decide +kernel
theorem dX7_readStatement_468 : decode cX7_readStatement 468 = .ok (.putfield 292, 3) := by decide +kernel
theorem dX7_readStatement_471 : decode cX7_readStatement 471 = .ok (.return_, 1) := by decide +kernel
theorem dX7_comes_0 : decode cX7_comes 0 = .ok (.iconst 5, 1) := by decide +kernel
theorem dX7_comes_1 : decode cX7_comes 1 = .ok (.iload_n 1, 1) := by decide +kernel
theorem dX7_comes_2 : decode cX7_comes 2 = .ok (.imul, 1) := by decide +kernel
theorem dX7_comes_3 : decode cX7_comes 3 = .ok (.istore_n 2, 1) := by decide +kernel
theorem dX7_comes_4 : decode cX7_comes 4 = .ok (.aload_n 0, 1) := by decide +kernel
theorem dX7_comes_5 : decode cX7_comes 5 = .ok (.getfield 99, 3) := by decide +kernel
theorem dX7_comes_8 : decode cX7_comes 8 = .ok (.iload_n 2, 1) := by decide +kernel
theorem dX7_comes_9 : decode cX7_comes 9 = .ok (.iaload, 1) := by decide +kernel
theorem dX7_comes_10 : decode cX7_comes 10 = .ok (.istore_n 3, 1) := by decide +kernel
theorem dX7_comes_11 : decode cX7_comes 11 = .ok (.aload_n 0, 1) := by decide +kernel
theorem dX7_comes_12 : decode cX7_comes 12 = .ok (.getfield 99, 3) := by decide +kernel
theorem dX7_comes_15 : decode cX7_comes 15 = .ok (.iload_n 2, 1) := by decide +kernel
theorem dX7_comes_16 : decode cX7_comes 16 = .ok (.iconst 1, 1) := by decide +kernel
theorem dX7_comes_17 : decode cX7_comes 17 = .ok (.iadd, 1) := by decide +kernel
theorem dX7_comes_18 : decode cX7_comes 18 = .ok (.iaload, 1) := by decide +kernel
theorem dX7_comes_19 : decode cX7_comes 19 = .ok (.istore 4, 2) := by decide +kernel
theorem dX7_comes_21 : decode cX7_comes 21 = .ok (.aload_n 0, 1) := by decide +kernel
theorem dX7_comes_22 : decode cX7_comes 22 = .ok (.getfield 99, 3) := by decide +kernel
theorem dX7_comes_25 : decode cX7_comes 25 = .ok (.iload_n 2, 1) := by decide +kernel
theorem dX7_comes_26 : decode cX7_comes 26 = .ok (.iconst 2, 1) := by decide +kernel
theorem dX7_comes_27 : decode cX7_comes 27 = .ok (.iadd, 1) := by decide +kernel
theorem dX7_comes_28 : decode cX7_comes 28 = .ok (.iaload, 1) := by decide +kernel
theorem dX7_comes_29 : decode cX7_comes 29 = .ok (.istore 5, 2) := by decide +kernel
theorem dX7_comes_31 : decode cX7_comes 31 = .ok (.aload_n 0, 1) := by decide +kernel
theorem dX7_comes_32 : decode cX7_comes 32 = .ok (.getfield 96, 3) := by decide +kernel
theorem dX7_comes_35 : decode cX7_comes 35 = .ok (.iload_n 1, 1) := by decide +kernel
theorem dX7_comes_36 : decode cX7_comes 36 = .ok (.iaload, 1) := by decide +kernel
theorem dX7_comes_37 : decode cX7_comes 37 = .ok (.lookupswitch 209 #[(99, 35), (114, 166), (119, 80)], 35) := by decide +kernel
theorem dX7_comes_72 : decode cX7_comes 72 = .ok (.iload_n 3, 1) := by decide +kernel
theorem dX7_comes_73 : decode cX7_comes 73 = .ok (.i2l, 1) := by decide +kernel
theorem dX7_comes_74 : decode cX7_comes 74 = .ok (.lconst 1, 1) := by decide +kernel
theorem dX7_comes_75 : decode cX7_comes 75 = .ok (.ldc2_w 301, 3) := by decide +kernel
theorem dX7_comes_78 : decode cX7_comes 78 = .ok (.invokestatic 114, 3) := by decide +kernel
theorem dX7_comes_81 : decode cX7_comes 81 = .ok (.ifCond .eq 25, 3) := by decide +kernel
theorem dX7_comes_84 : decode cX7_comes 84 = .ok (.iload 4, 2) := by decide +kernel
theorem dX7_comes_86 : decode cX7_comes 86 = .ok (.i2l, 1) := by decide +kernel
theorem dX7_comes_87 : decode cX7_comes 87 = .ok (.lconst 0, 1) := by decide +kernel
theorem dX7_comes_88 : decode cX7_comes 88 = .ok (.ldc2_w 301, 3) := by decide +kernel
theorem dX7_comes_91 : decode cX7_comes 91 = .ok (.invokestatic 114, 3) := by decide +kernel
theorem dX7_comes_94 : decode cX7_comes 94 = .ok (.ifCond .eq 12, 3) := by decide +kernel
theorem dX7_comes_97 : decode cX7_comes 97 = .ok (.aload_n 0, 1) := by decide +kernel
theorem dX7_comes_98 : decode cX7_comes 98 = .ok (.getfield 111, 3) := by decide +kernel
theorem dX7_comes_101 : decode cX7_comes 101 = .ok (.bipush 8, 2) := by decide +kernel
theorem dX7_comes_103 : decode cX7_comes 103 = .ok (.if_icmp .ne 5, 3) := by decide +kernel
theorem dX7_comes_106 : decode cX7_comes 106 = .ok (.iconst 0, 1) := by decide +kernel
theorem dX7_comes_107 : decode cX7_comes 107 = .ok (.ireturn, 1) := by decide +kernel
theorem dX7_comes_108 : decode cX7_comes 108 = .ok (.aload_n 0, 1) := by decide +kernel
theorem dX7_comes_109 : decode cX7_comes 109 = .ok (.iload_n 3, 1) := by decide +kernel
theorem dX7_comes_110 : decode cX7_comes 110 = .ok (.iload 4, 2) := by decide +kernel
theorem dX7_comes_112 : decode cX7_comes 112 = .ok (.invokevirtual 122, 3) := by decide +kernel
theorem dX7_comes_115 : decode cX7_comes 115 = .ok (.iconst 1, 1) := by decide +kernel
theorem dX7_comes_116 : decode cX7_comes 116 = .ok (.ireturn, 1) := by decide +kernel
theorem dX7_comes_117 : decode cX7_comes 117 = .ok (.aload_n 0, 1) := by decide +kernel
theorem dX7_comes_118 : decode cX7_comes 118 = .ok (.getfield 99, 3) := by decide +kernel
theorem dX7_comes_121 : decode cX7_comes 121 = .ok (.iload_n 2, 1) := by decide +kernel
theorem dX7_comes_122 : decode cX7_comes 122 = .ok (.iconst 3, 1) := by decide +kernel
theorem dX7_comes_123 : decode cX7_comes 123 = .ok (.iadd, 1) := by decide +kernel
theorem dX7_comes_124 : decode cX7_comes 124 = .ok (.iaload, 1) := by decide +kernel
theorem dX7_comes_125 : decode cX7_comes 125 = .ok (.istore 6, 2) := by decide +kernel
theorem dX7_comes_127 : decode cX7_comes 127 = .ok (.aload_n 0, 1) := by decide +kernel
theorem dX7_comes_128 : decode cX7_comes 128 = .ok (.getfield 99, 3) := by decide +kernel
theorem dX7_comes_131 : decode cX7_comes 131 = .ok (.iload_n 2, 1) := by decide +kernel
theorem dX7_comes_132 : decode cX7_comes 132 = .ok (.iconst 4, 1) := by decide +kernel
theorem dX7_comes_133 : decode cX7_comes 133 = .ok (.iadd, 1) := by decide +kernel
theorem dX7_comes_134 : decode cX7_comes 134 = .ok (.iaload, 1) := by decide +kernel
theorem dX7_comes_135 : decode cX7_comes 135 = .ok (.istore 7, 2) := by decide +kernel
theorem dX7_comes_137 : decode cX7_comes 137 = .ok (.aload_n 0, 1) := by decide +kernel
theorem dX7_comes_138 : decode cX7_comes 138 = .ok (.iload_n 3, 1) := by decide +kernel
theorem dX7_comes_139 : decode cX7_comes 139 = .ok (.iload 4, 2) := by decide +kernel
theorem dX7_comes_141 : decode cX7_comes 141 = .ok (.invokevirtual 135, 3) := by decide +kernel
theorem dX7_comes_144 : decode cX7_comes 144 = .ok (.ifCond .eq 42, 3) := by decide +kernel
theorem dX7_comes_147 : decode cX7_comes 147 = .ok (.iload 7, 2) := by decide +kernel
theorem dX7_comes_149 : decode cX7_comes 149 = .ok (.i2l, 1) := by decide +kernel
theorem dX7_comes_150 : decode cX7_comes 150 = .ok (.lconst 1, 1) := by decide +kernel
theorem dX7_comes_151 : decode cX7_comes 151 = .ok (.ldc2_w 192, 3) := by decide +kernel
theorem dX7_comes_154 : decode cX7_comes 154 = .ok (.invokestatic 114, 3) := by decide +kernel
theorem dX7_comes_157 : decode cX7_comes 157 = .ok (.ifCond .eq 29, 3) := by decide +kernel
theorem dX7_comes_160 : decode cX7_comes 160 = .ok (.aload_n 0, 1) := by decide +kernel
theorem dX7_comes_161 : decode cX7_comes 161 = .ok (.getfield 132, 3) := by decide +kernel
theorem dX7_comes_164 : decode cX7_comes 164 = .ok (.bipush 24, 2) := by decide +kernel
theorem dX7_comes_166 : decode cX7_comes 166 = .ok (.if_icmp .eq 20, 3) := by decide +kernel
theorem dX7_comes_169 : decode cX7_comes 169 = .ok (.aload_n 0, 1) := by decide +kernel
theorem dX7_comes_170 : decode cX7_comes 170 = .ok (.iload_n 3, 1) := by decide +kernel
theorem dX7_comes_171 : decode cX7_comes 171 = .ok (.iload 5, 2) := by decide +kernel
theorem dX7_comes_173 : decode cX7_comes 173 = .ok (.iload 6, 2) := by decide +kernel
theorem dX7_comes_175 : decode cX7_comes 175 = .ok (.invokevirtual 139, 3) := by decide +kernel
theorem dX7_comes_178 : decode cX7_comes 178 = .ok (.iload 7, 2) := by decide +kernel
theorem dX7_comes_180 : decode cX7_comes 180 = .ok (.iadd, 1) := by decide +kernel
theorem dX7_comes_181 : decode cX7_comes 181 = .ok (.bipush 100, 2) := by decide +kernel
theorem dX7_comes_183 : decode cX7_comes 183 = .ok (.if_icmp .le 5, 3) := by decide +kernel
theorem dX7_comes_186 : decode cX7_comes 186 = .ok (.iconst 0, 1) := by decide +kernel
theorem dX7_comes_187 : decode cX7_comes 187 = .ok (.ireturn, 1) := by decide +kernel
theorem dX7_comes_188 : decode cX7_comes 188 = .ok (.aload_n 0, 1) := by decide +kernel
theorem dX7_comes_189 : decode cX7_comes 189 = .ok (.iload_n 3, 1) := by decide +kernel
theorem dX7_comes_190 : decode cX7_comes 190 = .ok (.iload 4, 2) := by decide +kernel
theorem dX7_comes_192 : decode cX7_comes 192 = .ok (.iload 5, 2) := by decide +kernel
theorem dX7_comes_194 : decode cX7_comes 194 = .ok (.iload 6, 2) := by decide +kernel
theorem dX7_comes_196 : decode cX7_comes 196 = .ok (.iload 7, 2) := by decide +kernel
theorem dX7_comes_198 : decode cX7_comes 198 = .ok (.invokevirtual 143, 3) := by decide +kernel
theorem dX7_comes_201 : decode cX7_comes 201 = .ok (.iconst 1, 1) := by decide +kernel
theorem dX7_comes_202 : decode cX7_comes 202 = .ok (.ireturn, 1) := by decide +kernel
theorem dX7_comes_203 : decode cX7_comes 203 = .ok (.aload_n 0, 1) := by decide +kernel
theorem dX7_comes_204 : decode cX7_comes 204 = .ok (.iload_n 3, 1) := by decide +kernel
theorem dX7_comes_205 : decode cX7_comes 205 = .ok (.invokevirtual 126, 3) := by decide +kernel
theorem dX7_comes_208 : decode cX7_comes 208 = .ok (.ifCond .eq 25, 3) := by decide +kernel
theorem dX7_comes_211 : decode cX7_comes 211 = .ok (.iload 5, 2) := by decide +kernel
theorem dX7_comes_213 : decode cX7_comes 213 = .ok (.i2l, 1) := by decide +kernel
theorem dX7_comes_214 : decode cX7_comes 214 = .ok (.lconst 1, 1) := by decide +kernel
theorem dX7_comes_215 : decode cX7_comes 215 = .ok (.ldc2_w 303, 3) := by decide +kernel
theorem dX7_comes_218 : decode cX7_comes 218 = .ok (.invokestatic 114, 3) := by decide +kernel
theorem dX7_comes_221 : decode cX7_comes 221 = .ok (.ifCond .eq 12, 3) := by decide +kernel
theorem dX7_comes_224 : decode cX7_comes 224 = .ok (.aload_n 0, 1) := by decide +kernel
theorem dX7_comes_225 : decode cX7_comes 225 = .ok (.getfield 147, 3) := by decide +kernel
theorem dX7_comes_228 : decode cX7_comes 228 = .ok (.bipush 8, 2) := by decide +kernel
theorem dX7_comes_230 : decode cX7_comes 230 = .ok (.if_icmp .ne 5, 3) := by decide +kernel
theorem dX7_comes_233 : decode cX7_comes 233 = .ok (.iconst 0, 1) := by decide +kernel
theorem dX7_comes_234 : decode cX7_comes 234 = .ok (.ireturn, 1) := by decide +kernel
theorem dX7_comes_235 : decode cX7_comes 235 = .ok (.aload_n 0, 1) := by decide +kernel
theorem dX7_comes_236 : decode cX7_comes 236 = .ok (.iload_n 3, 1) := by decide +kernel
theorem dX7_comes_237 : decode cX7_comes 237 = .ok (.iload 4, 2) := by decide +kernel
theorem dX7_comes_239 : decode cX7_comes 239 = .ok (.iload 5, 2) := by decide +kernel
theorem dX7_comes_241 : decode cX7_comes 241 = .ok (.invokevirtual 153, 3) := by decide +kernel
theorem dX7_comes_244 : decode cX7_comes 244 = .ok (.iconst 1, 1) := by decide +kernel
theorem dX7_comes_245 : decode cX7_comes 245 = .ok (.ireturn, 1) := by decide +kernel
theorem dX7_comes_246 : decode cX7_comes 246 = .ok (.aload_n 0, 1) := by decide +kernel
theorem dX7_comes_247 : decode cX7_comes 247 = .ok (.iload 4, 2) := by decide +kernel
theorem dX7_comes_249 : decode cX7_comes 249 = .ok (.putfield 62, 3) := by decide +kernel
theorem dX7_comes_252 : decode cX7_comes 252 = .ok (.iconst 0, 1) := by decide +kernel
theorem dX7_comes_253 : decode cX7_comes 253 = .ok (.istore 8, 2) := by decide +kernel
theorem dX7_comes_255 : decode cX7_comes 255 = .ok (.iload 8, 2) := by decide +kernel
theorem dX7_comes_257 : decode cX7_comes 257 = .ok (.iload 4, 2) := by decide +kernel
theorem dX7_comes_259 : decode cX7_comes 259 = .ok (.if_icmp .ge 22, 3) := by decide +kernel
theorem dX7_comes_262 : decode cX7_comes 262 = .ok (.aload_n 0, 1) := by decide +kernel
theorem dX7_comes_263 : decode cX7_comes 263 = .ok (.getfield 59, 3) := by decide +kernel
theorem dX7_comes_266 : decode cX7_comes 266 = .ok (.iload 8, 2) := by decide +kernel
theorem dX7_comes_268 : decode cX7_comes 268 = .ok (.iload_n 3, 1) := by decide +kernel
theorem dX7_comes_269 : decode cX7_comes 269 = .ok (.iload 8, 2) := by decide +kernel
theorem dX7_comes_271 : decode cX7_comes 271 = .ok (.ishr, 1) := by decide +kernel
theorem dX7_comes_272 : decode cX7_comes 272 = .ok (.iconst 1, 1) := by decide +kernel
theorem dX7_comes_273 : decode cX7_comes 273 = .ok (.iand, 1) := by decide +kernel
theorem dX7_comes_274 : decode cX7_comes 274 = .ok (.iastore, 1) := by decide +kernel
theorem dX7_comes_275 : decode cX7_comes 275 = .ok (.iinc 8 1, 3) := by decide +kernel
theorem dX7_comes_278 : decode cX7_comes 278 = .ok (.goto (-23), 3) := by decide +kernel
theorem dX7_comes_281 : decode cX7_comes 281 = .ok (.iconst 1, 1) := by decide +kernel
theorem dX7_comes_282 : decode cX7_comes 282 = .ok (.ireturn, 1) := by decide +kernel
theorem dX7_coast_0 : decode cX7_coast 0 = .ok (.aload_n 0, 1) := by decide +kernel
theorem dX7_coast_1 : decode cX7_coast 1 = .ok (.iconst 0, 1) := by decide +kernel
theorem dX7_coast_2 : decode cX7_coast 2 = .ok (.putfield 268, 3) := by decide +kernel
theorem dX7_coast_5 : decode cX7_coast 5 = .ok (.aload_n 0, 1) := by decide +kernel
theorem dX7_coast_6 : decode cX7_coast 6 = .ok (.aload_n 0, 1) := by decide +kernel
theorem dX7_coast_7 : decode cX7_coast 7 = .ok (.getfield 108, 3) := by decide +kernel
theorem dX7_coast_10 : decode cX7_coast 10 = .ok (.putfield 271, 3) := by decide +kernel
theorem dX7_coast_13 : decode cX7_coast 13 = .ok (.aload_n 0, 1) := by decide +kernel
theorem dX7_coast_14 : decode cX7_coast 14 = .ok (.iconst 0, 1) := by decide +kernel
theorem dX7_coast_15 : decode cX7_coast 15 = .ok (.putfield 108, 3) := by decide +kernel
theorem dX7_coast_18 : decode cX7_coast 18 = .ok (.aload_n 0, 1) := by decide +kernel
theorem dX7_coast_19 : decode cX7_coast 19 = .ok (.iconst 0, 1) := by decide +kernel
theorem dX7_coast_20 : decode cX7_coast 20 = .ok (.putfield 274, 3) := by decide +kernel
theorem dX7_coast_23 : decode cX7_coast 23 = .ok (.aload_n 0, 1) := by decide +kernel
theorem dX7_coast_24 : decode cX7_coast 24 = .ok (.iconst 0, 1) := by decide +kernel
theorem dX7_coast_25 : decode cX7_coast 25 = .ok (.putfield 292, 3) := by decide +kernel
theorem dX7_coast_28 : decode cX7_coast 28 = .ok (.aload_n 0, 1) := by decide +kernel
theorem dX7_coast_29 : decode cX7_coast 29 = .ok (.getfield 274, 3) := by decide +kernel
theorem dX7_coast_32 : decode cX7_coast 32 = .ok (.ifCond .ne 28, 3) := by decide +kernel
theorem dX7_coast_35 : decode cX7_coast 35 = .ok (.aload_n 0, 1) := by decide +kernel
theorem dX7_coast_36 : decode cX7_coast 36 = .ok (.getfield 292, 3) := by decide +kernel
theorem dX7_coast_39 : decode cX7_coast 39 = .ok (.ifCond .eq 14, 3) := by decide +kernel
theorem dX7_coast_42 : decode cX7_coast 42 = .ok (.aload_n 0, 1) := by decide +kernel
theorem dX7_coast_43 : decode cX7_coast 43 = .ok (.getfield 268, 3) := by decide +kernel
theorem dX7_coast_46 : decode cX7_coast 46 = .ok (.aload_n 0, 1) := by decide +kernel
theorem dX7_coast_47 : decode cX7_coast 47 = .ok (.getfield 271, 3) := by decide +kernel
theorem dX7_coast_50 : decode cX7_coast 50 = .ok (.if_icmp .ge 10, 3) := by decide +kernel
theorem dX7_coast_53 : decode cX7_coast 53 = .ok (.aload_n 0, 1) := by decide +kernel
theorem dX7_coast_54 : decode cX7_coast 54 = .ok (.invokevirtual 305, 3) := by decide +kernel
theorem dX7_coast_57 : decode cX7_coast 57 = .ok (.goto (-29), 3) := by decide +kernel
theorem dX7_coast_60 : decode cX7_coast 60 = .ok (.aload_n 0, 1) := by decide +kernel
theorem dX7_coast_61 : decode cX7_coast 61 = .ok (.getfield 274, 3) := by decide +kernel
theorem dX7_coast_64 : decode cX7_coast 64 = .ok (.ifCond .eq 12, 3) := by decide +kernel
theorem dX7_coast_67 : decode cX7_coast 67 = .ok (.sipush (-1000), 3) := by decide +kernel
theorem dX7_coast_70 : decode cX7_coast 70 = .ok (.aload_n 0, 1) := by decide +kernel
theorem dX7_coast_71 : decode cX7_coast 71 = .ok (.getfield 268, 3) := by decide +kernel
theorem dX7_coast_74 : decode cX7_coast 74 = .ok (.isub, 1) := by decide +kernel
theorem dX7_coast_75 : decode cX7_coast 75 = .ok (.ireturn, 1) := by decide +kernel
theorem dX7_coast_76 : decode cX7_coast 76 = .ok (.aload_n 0, 1) := by decide +kernel
theorem dX7_coast_77 : decode cX7_coast 77 = .ok (.getfield 111, 3) := by decide +kernel
theorem dX7_coast_80 : decode cX7_coast 80 = .ok (.istore_n 1, 1) := by decide +kernel
theorem dX7_coast_81 : decode cX7_coast 81 = .ok (.aload_n 0, 1) := by decide +kernel
theorem dX7_coast_82 : decode cX7_coast 82 = .ok (.getfield 132, 3) := by decide +kernel
theorem dX7_coast_85 : decode cX7_coast 85 = .ok (.istore_n 2, 1) := by decide +kernel
theorem dX7_coast_86 : decode cX7_coast 86 = .ok (.aload_n 0, 1) := by decide +kernel
theorem dX7_coast_87 : decode cX7_coast 87 = .ok (.getfield 147, 3) := by decide +kernel
theorem dX7_coast_90 : decode cX7_coast 90 = .ok (.istore_n 3, 1) := by decide +kernel
theorem dX7_coast_91 : decode cX7_coast 91 = .ok (.aload_n 0, 1) := by decide +kernel
theorem dX7_coast_92 : decode cX7_coast 92 = .ok (.getfield 62, 3) := by decide +kernel
theorem dX7_coast_95 : decode cX7_coast 95 = .ok (.istore 4, 2) := by decide +kernel
theorem dX7_coast_97 : decode cX7_coast 97 = .ok (.iconst 0, 1) := by decide +kernel
theorem dX7_coast_98 : decode cX7_coast 98 = .ok (.istore 5, 2) := by decide +kernel
theorem dX7_coast_100 : decode cX7_coast 100 = .ok (.iload 5, 2) := by decide +kernel
theorem dX7_coast_102 : decode cX7_coast 102 = .ok (.bipush 28, 2) := by decide +kernel
theorem dX7_coast_104 : decode cX7_coast 104 = .ok (.if_icmp .ge 23, 3) := by decide +kernel
theorem dX7_coast_107 : decode cX7_coast 107 = .ok (.aload_n 0, 1) := by decide +kernel
theorem dX7_coast_108 : decode cX7_coast 108 = .ok (.getfield 102, 3) := by decide +kernel
theorem dX7_coast_111 : decode cX7_coast 111 = .ok (.iload 5, 2) := by decide +kernel
theorem dX7_coast_113 : decode cX7_coast 113 = .ok (.aload_n 0, 1) := by decide +kernel
theorem dX7_coast_114 : decode cX7_coast 114 = .ok (.getfield 59, 3) := by decide +kernel
theorem dX7_coast_117 : decode cX7_coast 117 = .ok (.iload 5, 2) := by decide +kernel
theorem dX7_coast_119 : decode cX7_coast 119 = .ok (.iaload, 1) := by decide +kernel
theorem dX7_coast_120 : decode cX7_coast 120 = .ok (.iastore, 1) := by decide +kernel
theorem dX7_coast_121 : decode cX7_coast 121 = .ok (.iinc 5 1, 3) := by decide +kernel
theorem dX7_coast_124 : decode cX7_coast 124 = .ok (.goto (-24), 3) := by decide +kernel
theorem dX7_coast_127 : decode cX7_coast 127 = .ok (.iconst 0, 1) := by decide +kernel
theorem dX7_coast_128 : decode cX7_coast 128 = .ok (.istore 5, 2) := by decide +kernel
theorem dX7_coast_130 : decode cX7_coast 130 = .ok (.iload 5, 2) := by decide +kernel
theorem dX7_coast_132 : decode cX7_coast 132 = .ok (.aload_n 0, 1) := by decide +kernel
theorem dX7_coast_133 : decode cX7_coast 133 = .ok (.getfield 292, 3) := by decide +kernel
theorem dX7_coast_136 : decode cX7_coast 136 = .ok (.if_icmp .ge 81, 3) := by decide +kernel
theorem dX7_coast_139 : decode cX7_coast 139 = .ok (.aload_n 0, 1) := by decide +kernel
theorem dX7_coast_140 : decode cX7_coast 140 = .ok (.iload 5, 2) := by decide +kernel
theorem dX7_coast_142 : decode cX7_coast 142 = .ok (.invokevirtual 308, 3) := by decide +kernel
theorem dX7_coast_145 : decode cX7_coast 145 = .ok (.ifCond .ne 66, 3) := by decide +kernel
theorem dX7_coast_148 : decode cX7_coast 148 = .ok (.aload_n 0, 1) := by decide +kernel
theorem dX7_coast_149 : decode cX7_coast 149 = .ok (.iload_n 1, 1) := by decide +kernel
theorem dX7_coast_150 : decode cX7_coast 150 = .ok (.putfield 111, 3) := by decide +kernel
theorem dX7_coast_153 : decode cX7_coast 153 = .ok (.aload_n 0, 1) := by decide +kernel
theorem dX7_coast_154 : decode cX7_coast 154 = .ok (.iload_n 2, 1) := by decide +kernel
theorem dX7_coast_155 : decode cX7_coast 155 = .ok (.putfield 132, 3) := by decide +kernel
theorem dX7_coast_158 : decode cX7_coast 158 = .ok (.aload_n 0, 1) := by decide +kernel
theorem dX7_coast_159 : decode cX7_coast 159 = .ok (.iload_n 3, 1) := by decide +kernel
theorem dX7_coast_160 : decode cX7_coast 160 = .ok (.putfield 147, 3) := by decide +kernel
theorem dX7_coast_163 : decode cX7_coast 163 = .ok (.aload_n 0, 1) := by decide +kernel
theorem dX7_coast_164 : decode cX7_coast 164 = .ok (.iload 4, 2) := by decide +kernel
theorem dX7_coast_166 : decode cX7_coast 166 = .ok (.putfield 62, 3) := by decide +kernel
theorem dX7_coast_169 : decode cX7_coast 169 = .ok (.iconst 0, 1) := by decide +kernel
theorem dX7_coast_170 : decode cX7_coast 170 = .ok (.istore 6, 2) := by decide +kernel
theorem dX7_coast_172 : decode cX7_coast 172 = .ok (.iload 6, 2) := by decide +kernel
theorem dX7_coast_174 : decode cX7_coast 174 = .ok (.bipush 28, 2) := by decide +kernel
theorem dX7_coast_176 : decode cX7_coast 176 = .ok (.if_icmp .ge 23, 3) := by decide +kernel
theorem dX7_coast_179 : decode cX7_coast 179 = .ok (.aload_n 0, 1) := by decide +kernel
theorem dX7_coast_180 : decode cX7_coast 180 = .ok (.getfield 59, 3) := by decide +kernel
theorem dX7_coast_183 : decode cX7_coast 183 = .ok (.iload 6, 2) := by decide +kernel
theorem dX7_coast_185 : decode cX7_coast 185 = .ok (.aload_n 0, 1) := by decide +kernel
theorem dX7_coast_186 : decode cX7_coast 186 = .ok (.getfield 102, 3) := by decide +kernel
theorem dX7_coast_189 : decode cX7_coast 189 = .ok (.iload 6, 2) := by decide +kernel
theorem dX7_coast_191 : decode cX7_coast 191 = .ok (.iaload, 1) := by decide +kernel
theorem dX7_coast_192 : decode cX7_coast 192 = .ok (.iastore, 1) := by decide +kernel
theorem dX7_coast_193 : decode cX7_coast 193 = .ok (.iinc 6 1, 3) := by decide +kernel
theorem dX7_coast_196 : decode cX7_coast 196 = .ok (.goto (-24), 3) := by decide +kernel
theorem dX7_coast_199 : decode cX7_coast 199 = .ok (.sipush (-2000), 3) := by decide +kernel
theorem dX7_coast_202 : decode cX7_coast 202 = .ok (.aload_n 0, 1) := by decide +kernel
theorem dX7_coast_203 : decode cX7_coast 203 = .ok (.getfield 93, 3) := by decide +kernel
theorem dX7_coast_206 : decode cX7_coast 206 = .ok (.iload 5, 2) := by decide +kernel
theorem dX7_coast_208 : decode cX7_coast 208 = .ok (.iaload, 1) := by decide +kernel
theorem dX7_coast_209 : decode cX7_coast 209 = .ok (.isub, 1) := by decide +kernel
theorem dX7_coast_210 : decode cX7_coast 210 = .ok (.ireturn, 1) := by decide +kernel
theorem dX7_coast_211 : decode cX7_coast 211 = .ok (.iinc 5 1, 3) := by decide +kernel
theorem dX7_coast_214 : decode cX7_coast 214 = .ok (.goto (-84), 3) := by decide +kernel
theorem dX7_coast_217 : decode cX7_coast 217 = .ok (.aload_n 0, 1) := by decide +kernel
theorem dX7_coast_218 : decode cX7_coast 218 = .ok (.getfield 292, 3) := by decide +kernel
theorem dX7_coast_221 : decode cX7_coast 221 = .ok (.ireturn, 1) := by decide +kernel
theorem dX7_carry_0 : decode cX7_carry 0 = .ok (.aload_n 0, 1) := by decide +kernel
theorem dX7_carry_1 : decode cX7_carry 1 = .ok (.getfield 311, 3) := by decide +kernel
theorem dX7_carry_4 : decode cX7_carry 4 = .ok (.ifCond .eq 13, 3) := by decide +kernel
theorem dX7_carry_7 : decode cX7_carry 7 = .ok (.aload_n 0, 1) := by decide +kernel
theorem dX7_carry_8 : decode cX7_carry 8 = .ok (.getfield 105, 3) := by decide +kernel
theorem dX7_carry_11 : decode cX7_carry 11 = .ok (.aload_n 0, 1) := by decide +kernel
theorem dX7_carry_12 : decode cX7_carry 12 = .ok (.getfield 314, 3) := by decide +kernel
theorem dX7_carry_15 : decode cX7_carry 15 = .ok (.iload_n 1, 1) := by decide +kernel
theorem dX7_carry_16 : decode cX7_carry 16 = .ok (.iastore, 1) := by decide +kernel
theorem dX7_carry_17 : decode cX7_carry 17 = .ok (.aload_n 0, 1) := by decide +kernel
theorem dX7_carry_18 : decode cX7_carry 18 = .ok (.dup, 1) := by decide +kernel
theorem dX7_carry_19 : decode cX7_carry 19 = .ok (.getfield 314, 3) := by decide +kernel
theorem dX7_carry_22 : decode cX7_carry 22 = .ok (.iconst 1, 1) := by decide +kernel
theorem dX7_carry_23 : decode cX7_carry 23 = .ok (.iadd, 1) := by decide +kernel
theorem dX7_carry_24 : decode cX7_carry 24 = .ok (.putfield 314, 3) := by decide +kernel
theorem dX7_carry_27 : decode cX7_carry 27 = .ok (.aload_n 0, 1) := by decide +kernel
theorem dX7_carry_28 : decode cX7_carry 28 = .ok (.getfield 105, 3) := by decide +kernel
theorem dX7_carry_31 : decode cX7_carry 31 = .ok (.aload_n 0, 1) := by decide +kernel
theorem dX7_carry_32 : decode cX7_carry 32 = .ok (.getfield 314, 3) := by decide +kernel
theorem dX7_carry_35 : decode cX7_carry 35 = .ok (.iconst 1, 1) := by decide +kernel
theorem dX7_carry_36 : decode cX7_carry 36 = .ok (.isub, 1) := by decide +kernel
theorem dX7_carry_37 : decode cX7_carry 37 = .ok (.iaload, 1) := by decide +kernel
theorem dX7_carry_38 : decode cX7_carry 38 = .ok (.ireturn, 1) := by decide +kernel
theorem dX7_carryAll_0 : decode cX7_carryAll 0 = .ok (.aload_n 0, 1) := by decide +kernel
theorem dX7_carryAll_1 : decode cX7_carryAll 1 = .ok (.iconst 0, 1) := by decide +kernel
theorem dX7_carryAll_2 : decode cX7_carryAll 2 = .ok (.putfield 314, 3) := by decide +kernel
theorem dX7_carryAll_5 : decode cX7_carryAll 5 = .ok (.aload_n 0, 1) := by decide +kernel
theorem dX7_carryAll_6 : decode cX7_carryAll 6 = .ok (.aload_n 0, 1) := by decide +kernel
theorem dX7_carryAll_7 : decode cX7_carryAll 7 = .ok (.aload_n 0, 1) := by decide +kernel
theorem dX7_carryAll_8 : decode cX7_carryAll 8 = .ok (.getfield 111, 3) := by decide +kernel
theorem dX7_carryAll_11 : decode cX7_carryAll 11 = .ok (.invokevirtual 317, 3) := by decide +kernel
theorem dX7_carryAll_14 : decode cX7_carryAll 14 = .ok (.putfield 111, 3) := by decide +kernel
theorem dX7_carryAll_17 : decode cX7_carryAll 17 = .ok (.aload_n 0, 1) := by decide +kernel
theorem dX7_carryAll_18 : decode cX7_carryAll 18 = .ok (.aload_n 0, 1) := by decide +kernel
theorem dX7_carryAll_19 : decode cX7_carryAll 19 = .ok (.aload_n 0, 1) := by decide +kernel
theorem dX7_carryAll_20 : decode cX7_carryAll 20 = .ok (.getfield 132, 3) := by decide +kernel
theorem dX7_carryAll_23 : decode cX7_carryAll 23 = .ok (.invokevirtual 317, 3) := by decide +kernel
theorem dX7_carryAll_26 : decode cX7_carryAll 26 = .ok (.putfield 132, 3) := by decide +kernel
theorem dX7_carryAll_29 : decode cX7_carryAll 29 = .ok (.aload_n 0, 1) := by decide +kernel
theorem dX7_carryAll_30 : decode cX7_carryAll 30 = .ok (.aload_n 0, 1) := by decide +kernel
theorem dX7_carryAll_31 : decode cX7_carryAll 31 = .ok (.aload_n 0, 1) := by decide +kernel
theorem dX7_carryAll_32 : decode cX7_carryAll 32 = .ok (.getfield 147, 3) := by decide +kernel
theorem dX7_carryAll_35 : decode cX7_carryAll 35 = .ok (.invokevirtual 317, 3) := by decide +kernel
theorem dX7_carryAll_38 : decode cX7_carryAll 38 = .ok (.putfield 147, 3) := by decide +kernel
theorem dX7_carryAll_41 : decode cX7_carryAll 41 = .ok (.aload_n 0, 1) := by decide +kernel
theorem dX7_carryAll_42 : decode cX7_carryAll 42 = .ok (.aload_n 0, 1) := by decide +kernel
theorem dX7_carryAll_43 : decode cX7_carryAll 43 = .ok (.aload_n 0, 1) := by decide +kernel
theorem dX7_carryAll_44 : decode cX7_carryAll 44 = .ok (.getfield 62, 3) := by decide +kernel
theorem dX7_carryAll_47 : decode cX7_carryAll 47 = .ok (.invokevirtual 317, 3) := by decide +kernel
theorem dX7_carryAll_50 : decode cX7_carryAll 50 = .ok (.putfield 62, 3) := by decide +kernel
theorem dX7_carryAll_53 : decode cX7_carryAll 53 = .ok (.aload_n 0, 1) := by decide +kernel
theorem dX7_carryAll_54 : decode cX7_carryAll 54 = .ok (.aload_n 0, 1) := by decide +kernel
theorem dX7_carryAll_55 : decode cX7_carryAll 55 = .ok (.aload_n 0, 1) := by decide +kernel
theorem dX7_carryAll_56 : decode cX7_carryAll 56 = .ok (.getfield 186, 3) := by decide +kernel
theorem dX7_carryAll_59 : decode cX7_carryAll 59 = .ok (.invokevirtual 317, 3) := by decide +kernel
theorem dX7_carryAll_62 : decode cX7_carryAll 62 = .ok (.putfield 186, 3) := by decide +kernel
theorem dX7_carryAll_65 : decode cX7_carryAll 65 = .ok (.aload_n 0, 1) := by decide +kernel
theorem dX7_carryAll_66 : decode cX7_carryAll 66 = .ok (.aload_n 0, 1) := by decide +kernel
theorem dX7_carryAll_67 : decode cX7_carryAll 67 = .ok (.aload_n 0, 1) := by decide +kernel
theorem dX7_carryAll_68 : decode cX7_carryAll 68 = .ok (.getfield 194, 3) := by decide +kernel
theorem dX7_carryAll_71 : decode cX7_carryAll 71 = .ok (.invokevirtual 317, 3) := by decide +kernel
theorem dX7_carryAll_74 : decode cX7_carryAll 74 = .ok (.putfield 194, 3) := by decide +kernel
theorem dX7_carryAll_77 : decode cX7_carryAll 77 = .ok (.aload_n 0, 1) := by decide +kernel
theorem dX7_carryAll_78 : decode cX7_carryAll 78 = .ok (.aload_n 0, 1) := by decide +kernel
theorem dX7_carryAll_79 : decode cX7_carryAll 79 = .ok (.aload_n 0, 1) := by decide +kernel
theorem dX7_carryAll_80 : decode cX7_carryAll 80 = .ok (.getfield 203, 3) := by decide +kernel
theorem dX7_carryAll_83 : decode cX7_carryAll 83 = .ok (.invokevirtual 317, 3) := by decide +kernel
theorem dX7_carryAll_86 : decode cX7_carryAll 86 = .ok (.putfield 203, 3) := by decide +kernel
theorem dX7_carryAll_89 : decode cX7_carryAll 89 = .ok (.aload_n 0, 1) := by decide +kernel
theorem dX7_carryAll_90 : decode cX7_carryAll 90 = .ok (.aload_n 0, 1) := by decide +kernel
theorem dX7_carryAll_91 : decode cX7_carryAll 91 = .ok (.aload_n 0, 1) := by decide +kernel
theorem dX7_carryAll_92 : decode cX7_carryAll 92 = .ok (.getfield 170, 3) := by decide +kernel
theorem dX7_carryAll_95 : decode cX7_carryAll 95 = .ok (.invokevirtual 317, 3) := by decide +kernel
theorem dX7_carryAll_98 : decode cX7_carryAll 98 = .ok (.putfield 170, 3) := by decide +kernel
theorem dX7_carryAll_101 : decode cX7_carryAll 101 = .ok (.aload_n 0, 1) := by decide +kernel
theorem dX7_carryAll_102 : decode cX7_carryAll 102 = .ok (.aload_n 0, 1) := by decide +kernel
theorem dX7_carryAll_103 : decode cX7_carryAll 103 = .ok (.aload_n 0, 1) := by decide +kernel
theorem dX7_carryAll_104 : decode cX7_carryAll 104 = .ok (.getfield 66, 3) := by decide +kernel
theorem dX7_carryAll_107 : decode cX7_carryAll 107 = .ok (.invokevirtual 317, 3) := by decide +kernel
theorem dX7_carryAll_110 : decode cX7_carryAll 110 = .ok (.putfield 66, 3) := by decide +kernel
theorem dX7_carryAll_113 : decode cX7_carryAll 113 = .ok (.aload_n 0, 1) := by decide +kernel
theorem dX7_carryAll_114 : decode cX7_carryAll 114 = .ok (.aload_n 0, 1) := by decide +kernel
theorem dX7_carryAll_115 : decode cX7_carryAll 115 = .ok (.aload_n 0, 1) := by decide +kernel
theorem dX7_carryAll_116 : decode cX7_carryAll 116 = .ok (.getfield 173, 3) := by decide +kernel
theorem dX7_carryAll_119 : decode cX7_carryAll 119 = .ok (.invokevirtual 317, 3) := by decide +kernel
theorem dX7_carryAll_122 : decode cX7_carryAll 122 = .ok (.putfield 173, 3) := by decide +kernel
theorem dX7_carryAll_125 : decode cX7_carryAll 125 = .ok (.aload_n 0, 1) := by decide +kernel
theorem dX7_carryAll_126 : decode cX7_carryAll 126 = .ok (.aload_n 0, 1) := by decide +kernel
theorem dX7_carryAll_127 : decode cX7_carryAll 127 = .ok (.aload_n 0, 1) := by decide +kernel
theorem dX7_carryAll_128 : decode cX7_carryAll 128 = .ok (.getfield 176, 3) := by decide +kernel
theorem dX7_carryAll_131 : decode cX7_carryAll 131 = .ok (.invokevirtual 317, 3) := by decide +kernel
theorem dX7_carryAll_134 : decode cX7_carryAll 134 = .ok (.putfield 176, 3) := by decide +kernel
theorem dX7_carryAll_137 : decode cX7_carryAll 137 = .ok (.aload_n 0, 1) := by decide +kernel
theorem dX7_carryAll_138 : decode cX7_carryAll 138 = .ok (.aload_n 0, 1) := by decide +kernel
theorem dX7_carryAll_139 : decode cX7_carryAll 139 = .ok (.aload_n 0, 1) := by decide +kernel
theorem dX7_carryAll_140 : decode cX7_carryAll 140 = .ok (.getfield 69, 3) := by decide +kernel
theorem dX7_carryAll_143 : decode cX7_carryAll 143 = .ok (.invokevirtual 317, 3) := by decide +kernel
theorem dX7_carryAll_146 : decode cX7_carryAll 146 = .ok (.putfield 69, 3) := by decide +kernel
theorem dX7_carryAll_149 : decode cX7_carryAll 149 = .ok (.iconst 0, 1) := by decide +kernel
theorem dX7_carryAll_150 : decode cX7_carryAll 150 = .ok (.istore_n 1, 1) := by decide +kernel
theorem dX7_carryAll_151 : decode cX7_carryAll 151 = .ok (.iload_n 1, 1) := by decide +kernel
theorem dX7_carryAll_152 : decode cX7_carryAll 152 = .ok (.bipush 8, 2) := by decide +kernel
theorem dX7_carryAll_154 : decode cX7_carryAll 154 = .ok (.if_icmp .ge 137, 3) := by decide +kernel
theorem dX7_carryAll_157 : decode cX7_carryAll 157 = .ok (.aload_n 0, 1) := by decide +kernel
theorem dX7_carryAll_158 : decode cX7_carryAll 158 = .ok (.getfield 7, 3) := by decide +kernel
theorem dX7_carryAll_161 : decode cX7_carryAll 161 = .ok (.iload_n 1, 1) := by decide +kernel
theorem dX7_carryAll_162 : decode cX7_carryAll 162 = .ok (.aload_n 0, 1) := by decide +kernel
theorem dX7_carryAll_163 : decode cX7_carryAll 163 = .ok (.aload_n 0, 1) := by decide +kernel
theorem dX7_carryAll_164 : decode cX7_carryAll 164 = .ok (.getfield 7, 3) := by decide +kernel
theorem dX7_carryAll_167 : decode cX7_carryAll 167 = .ok (.iload_n 1, 1) := by decide +kernel
theorem dX7_carryAll_168 : decode cX7_carryAll 168 = .ok (.iaload, 1) := by decide +kernel
theorem dX7_carryAll_169 : decode cX7_carryAll 169 = .ok (.invokevirtual 317, 3) := by decide +kernel
theorem dX7_carryAll_172 : decode cX7_carryAll 172 = .ok (.iastore, 1) := by decide +kernel
theorem dX7_carryAll_173 : decode cX7_carryAll 173 = .ok (.aload_n 0, 1) := by decide +kernel
theorem dX7_carryAll_174 : decode cX7_carryAll 174 = .ok (.getfield 13, 3) := by decide +kernel
theorem dX7_carryAll_177 : decode cX7_carryAll 177 = .ok (.iload_n 1, 1) := by decide +kernel
theorem dX7_carryAll_178 : decode cX7_carryAll 178 = .ok (.aload_n 0, 1) := by decide +kernel
theorem dX7_carryAll_179 : decode cX7_carryAll 179 = .ok (.aload_n 0, 1) := by decide +kernel
theorem dX7_carryAll_180 : decode cX7_carryAll 180 = .ok (.getfield 13, 3) := by decide +kernel
theorem dX7_carryAll_183 : decode cX7_carryAll 183 = .ok (.iload_n 1, 1) := by decide +kernel
theorem dX7_carryAll_184 : decode cX7_carryAll 184 = .ok (.iaload, 1) := by decide +kernel
theorem dX7_carryAll_185 : decode cX7_carryAll 185 = .ok (.invokevirtual 317, 3) := by decide +kernel
theorem dX7_carryAll_188 : decode cX7_carryAll 188 = .ok (.iastore, 1) := by decide +kernel
theorem dX7_carryAll_189 : decode cX7_carryAll 189 = .ok (.aload_n 0, 1) := by decide +kernel
theorem dX7_carryAll_190 : decode cX7_carryAll 190 = .ok (.getfield 16, 3) := by decide +kernel
theorem dX7_carryAll_193 : decode cX7_carryAll 193 = .ok (.iload_n 1, 1) := by decide +kernel
theorem dX7_carryAll_194 : decode cX7_carryAll 194 = .ok (.aload_n 0, 1) := by decide +kernel
theorem dX7_carryAll_195 : decode cX7_carryAll 195 = .ok (.aload_n 0, 1) := by decide +kernel
theorem dX7_carryAll_196 : decode cX7_carryAll 196 = .ok (.getfield 16, 3) := by decide +kernel
theorem dX7_carryAll_199 : decode cX7_carryAll 199 = .ok (.iload_n 1, 1) := by decide +kernel
theorem dX7_carryAll_200 : decode cX7_carryAll 200 = .ok (.iaload, 1) := by decide +kernel
theorem dX7_carryAll_201 : decode cX7_carryAll 201 = .ok (.invokevirtual 317, 3) := by decide +kernel
theorem dX7_carryAll_204 : decode cX7_carryAll 204 = .ok (.iastore, 1) := by decide +kernel
theorem dX7_carryAll_205 : decode cX7_carryAll 205 = .ok (.aload_n 0, 1) := by decide +kernel
theorem dX7_carryAll_206 : decode cX7_carryAll 206 = .ok (.getfield 19, 3) := by decide +kernel
theorem dX7_carryAll_209 : decode cX7_carryAll 209 = .ok (.iload_n 1, 1) := by decide +kernel
theorem dX7_carryAll_210 : decode cX7_carryAll 210 = .ok (.aload_n 0, 1) := by decide +kernel
theorem dX7_carryAll_211 : decode cX7_carryAll 211 = .ok (.aload_n 0, 1) := by decide +kernel
theorem dX7_carryAll_212 : decode cX7_carryAll 212 = .ok (.getfield 19, 3) := by decide +kernel
theorem dX7_carryAll_215 : decode cX7_carryAll 215 = .ok (.iload_n 1, 1) := by decide +kernel
theorem dX7_carryAll_216 : decode cX7_carryAll 216 = .ok (.iaload, 1) := by decide +kernel
theorem dX7_carryAll_217 : decode cX7_carryAll 217 = .ok (.invokevirtual 317, 3) := by decide +kernel
theorem dX7_carryAll_220 : decode cX7_carryAll 220 = .ok (.iastore, 1) := by decide +kernel
theorem dX7_carryAll_221 : decode cX7_carryAll 221 = .ok (.aload_n 0, 1) := by decide +kernel
theorem dX7_carryAll_222 : decode cX7_carryAll 222 = .ok (.getfield 22, 3) := by decide +kernel
theorem dX7_carryAll_225 : decode cX7_carryAll 225 = .ok (.iload_n 1, 1) := by decide +kernel
theorem dX7_carryAll_226 : decode cX7_carryAll 226 = .ok (.aload_n 0, 1) := by decide +kernel
theorem dX7_carryAll_227 : decode cX7_carryAll 227 = .ok (.aload_n 0, 1) := by decide +kernel
theorem dX7_carryAll_228 : decode cX7_carryAll 228 = .ok (.getfield 22, 3) := by decide +kernel
theorem dX7_carryAll_231 : decode cX7_carryAll 231 = .ok (.iload_n 1, 1) := by decide +kernel
theorem dX7_carryAll_232 : decode cX7_carryAll 232 = .ok (.iaload, 1) := by decide +kernel
theorem dX7_carryAll_233 : decode cX7_carryAll 233 = .ok (.invokevirtual 317, 3) := by decide +kernel
theorem dX7_carryAll_236 : decode cX7_carryAll 236 = .ok (.iastore, 1) := by decide +kernel
theorem dX7_carryAll_237 : decode cX7_carryAll 237 = .ok (.aload_n 0, 1) := by decide +kernel
theorem dX7_carryAll_238 : decode cX7_carryAll 238 = .ok (.getfield 50, 3) := by decide +kernel
theorem dX7_carryAll_241 : decode cX7_carryAll 241 = .ok (.iload_n 1, 1) := by decide +kernel
theorem dX7_carryAll_242 : decode cX7_carryAll 242 = .ok (.aload_n 0, 1) := by decide +kernel
theorem dX7_carryAll_243 : decode cX7_carryAll 243 = .ok (.aload_n 0, 1) := by decide +kernel
theorem dX7_carryAll_244 : decode cX7_carryAll 244 = .ok (.getfield 50, 3) := by decide +kernel
theorem dX7_carryAll_247 : decode cX7_carryAll 247 = .ok (.iload_n 1, 1) := by decide +kernel
theorem dX7_carryAll_248 : decode cX7_carryAll 248 = .ok (.iaload, 1) := by decide +kernel
theorem dX7_carryAll_249 : decode cX7_carryAll 249 = .ok (.invokevirtual 317, 3) := by decide +kernel
theorem dX7_carryAll_252 : decode cX7_carryAll 252 = .ok (.iastore, 1) := by decide +kernel
theorem dX7_carryAll_253 : decode cX7_carryAll 253 = .ok (.aload_n 0, 1) := by decide +kernel
theorem dX7_carryAll_254 : decode cX7_carryAll 254 = .ok (.getfield 53, 3) := by decide +kernel
theorem dX7_carryAll_257 : decode cX7_carryAll 257 = .ok (.iload_n 1, 1) := by decide +kernel
theorem dX7_carryAll_258 : decode cX7_carryAll 258 = .ok (.aload_n 0, 1) := by decide +kernel
theorem dX7_carryAll_259 : decode cX7_carryAll 259 = .ok (.aload_n 0, 1) := by decide +kernel
theorem dX7_carryAll_260 : decode cX7_carryAll 260 = .ok (.getfield 53, 3) := by decide +kernel
theorem dX7_carryAll_263 : decode cX7_carryAll 263 = .ok (.iload_n 1, 1) := by decide +kernel
theorem dX7_carryAll_264 : decode cX7_carryAll 264 = .ok (.iaload, 1) := by decide +kernel
theorem dX7_carryAll_265 : decode cX7_carryAll 265 = .ok (.invokevirtual 317, 3) := by decide +kernel
theorem dX7_carryAll_268 : decode cX7_carryAll 268 = .ok (.iastore, 1) := by decide +kernel
theorem dX7_carryAll_269 : decode cX7_carryAll 269 = .ok (.aload_n 0, 1) := by decide +kernel
theorem dX7_carryAll_270 : decode cX7_carryAll 270 = .ok (.getfield 56, 3) := by decide +kernel
theorem dX7_carryAll_273 : decode cX7_carryAll 273 = .ok (.iload_n 1, 1) := by decide +kernel
theorem dX7_carryAll_274 : decode cX7_carryAll 274 = .ok (.aload_n 0, 1) := by decide +kernel
theorem dX7_carryAll_275 : decode cX7_carryAll 275 = .ok (.aload_n 0, 1) := by decide +kernel
theorem dX7_carryAll_276 : decode cX7_carryAll 276 = .ok (.getfield 56, 3) := by decide +kernel
theorem dX7_carryAll_279 : decode cX7_carryAll 279 = .ok (.iload_n 1, 1) := by decide +kernel
theorem dX7_carryAll_280 : decode cX7_carryAll 280 = .ok (.iaload, 1) := by decide +kernel
theorem dX7_carryAll_281 : decode cX7_carryAll 281 = .ok (.invokevirtual 317, 3) := by decide +kernel
theorem dX7_carryAll_284 : decode cX7_carryAll 284 = .ok (.iastore, 1) := by decide +kernel
theorem dX7_carryAll_285 : decode cX7_carryAll 285 = .ok (.iinc 1 1, 3) := by decide +kernel
theorem dX7_carryAll_288 : decode cX7_carryAll 288 = .ok (.goto (-137), 3) := by decide +kernel
theorem dX7_carryAll_291 : decode cX7_carryAll 291 = .ok (.iconst 0, 1) := by decide +kernel
theorem dX7_carryAll_292 : decode cX7_carryAll 292 = .ok (.istore_n 1, 1) := by decide +kernel
theorem dX7_carryAll_293 : decode cX7_carryAll 293 = .ok (.iload_n 1, 1) := by decide +kernel
theorem dX7_carryAll_294 : decode cX7_carryAll 294 = .ok (.bipush 16, 2) := by decide +kernel
theorem dX7_carryAll_296 : decode cX7_carryAll 296 = .ok (.if_icmp .ge 41, 3) := by decide +kernel
theorem dX7_carryAll_299 : decode cX7_carryAll 299 = .ok (.aload_n 0, 1) := by decide +kernel
theorem dX7_carryAll_300 : decode cX7_carryAll 300 = .ok (.getfield 25, 3) := by decide +kernel
theorem dX7_carryAll_303 : decode cX7_carryAll 303 = .ok (.iload_n 1, 1) := by decide +kernel
theorem dX7_carryAll_304 : decode cX7_carryAll 304 = .ok (.aload_n 0, 1) := by decide +kernel
theorem dX7_carryAll_305 : decode cX7_carryAll 305 = .ok (.aload_n 0, 1) := by decide +kernel
theorem dX7_carryAll_306 : decode cX7_carryAll 306 = .ok (.getfield 25, 3) := by decide +kernel
theorem dX7_carryAll_309 : decode cX7_carryAll 309 = .ok (.iload_n 1, 1) := by decide +kernel
theorem dX7_carryAll_310 : decode cX7_carryAll 310 = .ok (.iaload, 1) := by decide +kernel
theorem dX7_carryAll_311 : decode cX7_carryAll 311 = .ok (.invokevirtual 317, 3) := by decide +kernel
theorem dX7_carryAll_314 : decode cX7_carryAll 314 = .ok (.iastore, 1) := by decide +kernel
theorem dX7_carryAll_315 : decode cX7_carryAll 315 = .ok (.aload_n 0, 1) := by decide +kernel
theorem dX7_carryAll_316 : decode cX7_carryAll 316 = .ok (.getfield 28, 3) := by decide +kernel
theorem dX7_carryAll_319 : decode cX7_carryAll 319 = .ok (.iload_n 1, 1) := by decide +kernel
theorem dX7_carryAll_320 : decode cX7_carryAll 320 = .ok (.aload_n 0, 1) := by decide +kernel
theorem dX7_carryAll_321 : decode cX7_carryAll 321 = .ok (.aload_n 0, 1) := by decide +kernel
theorem dX7_carryAll_322 : decode cX7_carryAll 322 = .ok (.getfield 28, 3) := by decide +kernel
theorem dX7_carryAll_325 : decode cX7_carryAll 325 = .ok (.iload_n 1, 1) := by decide +kernel
theorem dX7_carryAll_326 : decode cX7_carryAll 326 = .ok (.iaload, 1) := by decide +kernel
theorem dX7_carryAll_327 : decode cX7_carryAll 327 = .ok (.invokevirtual 317, 3) := by decide +kernel
theorem dX7_carryAll_330 : decode cX7_carryAll 330 = .ok (.iastore, 1) := by decide +kernel
theorem dX7_carryAll_331 : decode cX7_carryAll 331 = .ok (.iinc 1 1, 3) := by decide +kernel
theorem dX7_carryAll_334 : decode cX7_carryAll 334 = .ok (.goto (-41), 3) := by decide +kernel
theorem dX7_carryAll_337 : decode cX7_carryAll 337 = .ok (.iconst 0, 1) := by decide +kernel
theorem dX7_carryAll_338 : decode cX7_carryAll 338 = .ok (.istore_n 1, 1) := by decide +kernel
theorem dX7_carryAll_339 : decode cX7_carryAll 339 = .ok (.iload_n 1, 1) := by decide +kernel
theorem dX7_carryAll_340 : decode cX7_carryAll 340 = .ok (.bipush 24, 2) := by decide +kernel
theorem dX7_carryAll_342 : decode cX7_carryAll 342 = .ok (.if_icmp .ge 122, 3) := by decide +kernel
theorem dX7_carryAll_345 : decode cX7_carryAll 345 = .ok (.aload_n 0, 1) := by decide +kernel
theorem dX7_carryAll_346 : decode cX7_carryAll 346 = .ok (.getfield 31, 3) := by decide +kernel
theorem dX7_carryAll_349 : decode cX7_carryAll 349 = .ok (.iload_n 1, 1) := by decide +kernel
theorem dX7_carryAll_350 : decode cX7_carryAll 350 = .ok (.aload_n 0, 1) := by decide +kernel
theorem dX7_carryAll_351 : decode cX7_carryAll 351 = .ok (.aload_n 0, 1) := by decide +kernel
theorem dX7_carryAll_352 : decode cX7_carryAll 352 = .ok (.getfield 31, 3) := by decide +kernel
theorem dX7_carryAll_355 : decode cX7_carryAll 355 = .ok (.iload_n 1, 1) := by decide +kernel
theorem dX7_carryAll_356 : decode cX7_carryAll 356 = .ok (.iaload, 1) := by decide +kernel
theorem dX7_carryAll_357 : decode cX7_carryAll 357 = .ok (.invokevirtual 317, 3) := by decide +kernel
theorem dX7_carryAll_360 : decode cX7_carryAll 360 = .ok (.iastore, 1) := by decide +kernel
theorem dX7_carryAll_361 : decode cX7_carryAll 361 = .ok (.aload_n 0, 1) := by decide +kernel
theorem dX7_carryAll_362 : decode cX7_carryAll 362 = .ok (.getfield 34, 3) := by decide +kernel
theorem dX7_carryAll_365 : decode cX7_carryAll 365 = .ok (.iload_n 1, 1) := by decide +kernel
theorem dX7_carryAll_366 : decode cX7_carryAll 366 = .ok (.aload_n 0, 1) := by decide +kernel
theorem dX7_carryAll_367 : decode cX7_carryAll 367 = .ok (.aload_n 0, 1) := by decide +kernel
theorem dX7_carryAll_368 : decode cX7_carryAll 368 = .ok (.getfield 34, 3) := by decide +kernel
theorem dX7_carryAll_371 : decode cX7_carryAll 371 = .ok (.iload_n 1, 1) := by decide +kernel
theorem dX7_carryAll_372 : decode cX7_carryAll 372 = .ok (.iaload, 1) := by decide +kernel
theorem dX7_carryAll_373 : decode cX7_carryAll 373 = .ok (.invokevirtual 317, 3) := by decide +kernel
theorem dX7_carryAll_376 : decode cX7_carryAll 376 = .ok (.iastore, 1) := by decide +kernel
theorem dX7_carryAll_377 : decode cX7_carryAll 377 = .ok (.aload_n 0, 1) := by decide +kernel
theorem dX7_carryAll_378 : decode cX7_carryAll 378 = .ok (.getfield 37, 3) := by decide +kernel
theorem dX7_carryAll_381 : decode cX7_carryAll 381 = .ok (.iload_n 1, 1) := by decide +kernel
theorem dX7_carryAll_382 : decode cX7_carryAll 382 = .ok (.aload_n 0, 1) := by decide +kernel
theorem dX7_carryAll_383 : decode cX7_carryAll 383 = .ok (.aload_n 0, 1) := by decide +kernel
theorem dX7_carryAll_384 : decode cX7_carryAll 384 = .ok (.getfield 37, 3) := by decide +kernel
theorem dX7_carryAll_387 : decode cX7_carryAll 387 = .ok (.iload_n 1, 1) := by decide +kernel
theorem dX7_carryAll_388 : decode cX7_carryAll 388 = .ok (.iaload, 1) := by decide +kernel
theorem dX7_carryAll_389 : decode cX7_carryAll 389 = .ok (.invokevirtual 317, 3) := by decide +kernel
theorem dX7_carryAll_392 : decode cX7_carryAll 392 = .ok (.iastore, 1) := by decide +kernel
theorem dX7_carryAll_393 : decode cX7_carryAll 393 = .ok (.aload_n 0, 1) := by decide +kernel
theorem dX7_carryAll_394 : decode cX7_carryAll 394 = .ok (.getfield 40, 3) := by decide +kernel
theorem dX7_carryAll_397 : decode cX7_carryAll 397 = .ok (.iload_n 1, 1) := by decide +kernel
theorem dX7_carryAll_398 : decode cX7_carryAll 398 = .ok (.aload_n 0, 1) := by decide +kernel
theorem dX7_carryAll_399 : decode cX7_carryAll 399 = .ok (.aload_n 0, 1) := by decide +kernel
theorem dX7_carryAll_400 : decode cX7_carryAll 400 = .ok (.getfield 40, 3) := by decide +kernel
theorem dX7_carryAll_403 : decode cX7_carryAll 403 = .ok (.iload_n 1, 1) := by decide +kernel
theorem dX7_carryAll_404 : decode cX7_carryAll 404 = .ok (.iaload, 1) := by decide +kernel
theorem dX7_carryAll_405 : decode cX7_carryAll 405 = .ok (.invokevirtual 317, 3) := by decide +kernel
theorem dX7_carryAll_408 : decode cX7_carryAll 408 = .ok (.iastore, 1) := by decide +kernel
theorem dX7_carryAll_409 : decode cX7_carryAll 409 = .ok (.aload_n 0, 1) := by decide +kernel
theorem dX7_carryAll_410 : decode cX7_carryAll 410 = .ok (.getfield 43, 3) := by decide +kernel
theorem dX7_carryAll_413 : decode cX7_carryAll 413 = .ok (.iload_n 1, 1) := by decide +kernel
theorem dX7_carryAll_414 : decode cX7_carryAll 414 = .ok (.aload_n 0, 1) := by decide +kernel
theorem dX7_carryAll_415 : decode cX7_carryAll 415 = .ok (.aload_n 0, 1) := by decide +kernel
theorem dX7_carryAll_416 : decode cX7_carryAll 416 = .ok (.getfield 43, 3) := by decide +kernel
theorem dX7_carryAll_419 : decode cX7_carryAll 419 = .ok (.iload_n 1, 1) := by decide +kernel
theorem dX7_carryAll_420 : decode cX7_carryAll 420 = .ok (.iaload, 1) := by decide +kernel
theorem dX7_carryAll_421 : decode cX7_carryAll 421 = .ok (.invokevirtual 317, 3) := by decide +kernel
theorem dX7_carryAll_424 : decode cX7_carryAll 424 = .ok (.iastore, 1) := by decide +kernel
theorem dX7_carryAll_425 : decode cX7_carryAll 425 = .ok (.aload_n 0, 1) := by decide +kernel
theorem dX7_carryAll_426 : decode cX7_carryAll 426 = .ok (.getfield 46, 3) := by decide +kernel
theorem dX7_carryAll_429 : decode cX7_carryAll 429 = .ok (.iload_n 1, 1) := by decide +kernel
theorem dX7_carryAll_430 : decode cX7_carryAll 430 = .ok (.aload_n 0, 1) := by decide +kernel
theorem dX7_carryAll_431 : decode cX7_carryAll 431 = .ok (.aload_n 0, 1) := by decide +kernel
theorem dX7_carryAll_432 : decode cX7_carryAll 432 = .ok (.getfield 46, 3) := by decide +kernel
theorem dX7_carryAll_435 : decode cX7_carryAll 435 = .ok (.iload_n 1, 1) := by decide +kernel
theorem dX7_carryAll_436 : decode cX7_carryAll 436 = .ok (.baload, 1) := by decide +kernel
theorem dX7_carryAll_437 : decode cX7_carryAll 437 = .ok (.ifCond .eq 7, 3) := by decide +kernel
theorem dX7_carryAll_440 : decode cX7_carryAll 440 = .ok (.iconst 1, 1) := by decide +kernel
theorem dX7_carryAll_441 : decode cX7_carryAll 441 = .ok (.goto 4, 3) := by decide +kernel
theorem dX7_carryAll_444 : decode cX7_carryAll 444 = .ok (.iconst 0, 1) := by decide +kernel
theorem dX7_carryAll_445 : decode cX7_carryAll 445 = .ok (.invokevirtual 317, 3) := by decide +kernel
theorem dX7_carryAll_448 : decode cX7_carryAll 448 = .ok (.iconst 1, 1) := by decide +kernel
theorem dX7_carryAll_449 : decode cX7_carryAll 449 = .ok (.if_icmp .ne 7, 3) := by decide +kernel
theorem dX7_carryAll_452 : decode cX7_carryAll 452 = .ok (.iconst 1, 1) := by decide +kernel
theorem dX7_carryAll_453 : decode cX7_carryAll 453 = .ok (.goto 4, 3) := by decide +kernel
theorem dX7_carryAll_456 : decode cX7_carryAll 456 = .ok (.iconst 0, 1) := by decide +kernel
theorem dX7_carryAll_457 : decode cX7_carryAll 457 = .ok (.bastore, 1) := by decide +kernel
theorem dX7_carryAll_458 : decode cX7_carryAll 458 = .ok (.iinc 1 1, 3) := by decide +kernel
theorem dX7_carryAll_461 : decode cX7_carryAll 461 = .ok (.goto (-122), 3) := by decide +kernel
theorem dX7_carryAll_464 : decode cX7_carryAll 464 = .ok (.iconst 0, 1) := by decide +kernel
theorem dX7_carryAll_465 : decode cX7_carryAll 465 = .ok (.istore_n 1, 1) := by decide +kernel
theorem dX7_carryAll_466 : decode cX7_carryAll 466 = .ok (.iload_n 1, 1) := by decide +kernel
theorem dX7_carryAll_467 : decode cX7_carryAll 467 = .ok (.bipush 28, 2) := by decide +kernel
theorem dX7_carryAll_469 : decode cX7_carryAll 469 = .ok (.if_icmp .ge 25, 3) := by decide +kernel
theorem dX7_carryAll_472 : decode cX7_carryAll 472 = .ok (.aload_n 0, 1) := by decide +kernel
theorem dX7_carryAll_473 : decode cX7_carryAll 473 = .ok (.getfield 59, 3) := by decide +kernel
theorem dX7_carryAll_476 : decode cX7_carryAll 476 = .ok (.iload_n 1, 1) := by decide +kernel
theorem dX7_carryAll_477 : decode cX7_carryAll 477 = .ok (.aload_n 0, 1) := by decide +kernel
theorem dX7_carryAll_478 : decode cX7_carryAll 478 = .ok (.aload_n 0, 1) := by decide +kernel
theorem dX7_carryAll_479 : decode cX7_carryAll 479 = .ok (.getfield 59, 3) := by decide +kernel
theorem dX7_carryAll_482 : decode cX7_carryAll 482 = .ok (.iload_n 1, 1) := by decide +kernel
theorem dX7_carryAll_483 : decode cX7_carryAll 483 = .ok (.iaload, 1) := by decide +kernel
theorem dX7_carryAll_484 : decode cX7_carryAll 484 = .ok (.invokevirtual 317, 3) := by decide +kernel
theorem dX7_carryAll_487 : decode cX7_carryAll 487 = .ok (.iastore, 1) := by decide +kernel
theorem dX7_carryAll_488 : decode cX7_carryAll 488 = .ok (.iinc 1 1, 3) := by decide +kernel
theorem dX7_carryAll_491 : decode cX7_carryAll 491 = .ok (.goto (-25), 3) := by decide +kernel
theorem dX7_carryAll_494 : decode cX7_carryAll 494 = .ok (.return_, 1) := by decide +kernel
theorem dX7_image_0 : decode cX7_image 0 = .ok (.aload_n 0, 1) := by decide +kernel
theorem dX7_image_1 : decode cX7_image 1 = .ok (.iconst 1, 1) := by decide +kernel
theorem dX7_image_2 : decode cX7_image 2 = .ok (.putfield 320, 3) := by decide +kernel
theorem dX7_image_5 : decode cX7_image 5 = .ok (.aload_n 0, 1) := by decide +kernel
theorem dX7_image_6 : decode cX7_image 6 = .ok (.iconst 1, 1) := by decide +kernel
theorem dX7_image_7 : decode cX7_image 7 = .ok (.putfield 311, 3) := by decide +kernel
theorem dX7_image_10 : decode cX7_image 10 = .ok (.aload_n 0, 1) := by decide +kernel
theorem dX7_image_11 : decode cX7_image 11 = .ok (.invokevirtual 323, 3) := by decide +kernel
theorem dX7_image_14 : decode cX7_image 14 = .ok (.aload_n 0, 1) := by decide +kernel
theorem dX7_image_15 : decode cX7_image 15 = .ok (.getfield 111, 3) := by decide +kernel
theorem dX7_image_18 : decode cX7_image 18 = .ok (.ireturn, 1) := by decide +kernel
theorem dX7_restore_0 : decode cX7_restore 0 = .ok (.aload_n 0, 1) := by decide +kernel
theorem dX7_restore_1 : decode cX7_restore 1 = .ok (.getfield 320, 3) := by decide +kernel
theorem dX7_restore_4 : decode cX7_restore 4 = .ok (.ifCond .ne 10, 3) := by decide +kernel
theorem dX7_restore_7 : decode cX7_restore 7 = .ok (.aload_n 0, 1) := by decide +kernel
theorem dX7_restore_8 : decode cX7_restore 8 = .ok (.bipush (-3), 2) := by decide +kernel
theorem dX7_restore_10 : decode cX7_restore 10 = .ok (.invokevirtual 118, 3) := by decide +kernel
theorem dX7_restore_13 : decode cX7_restore 13 = .ok (.ireturn, 1) := by decide +kernel
theorem dX7_restore_14 : decode cX7_restore 14 = .ok (.aload_n 0, 1) := by decide +kernel
theorem dX7_restore_15 : decode cX7_restore 15 = .ok (.iconst 0, 1) := by decide +kernel
theorem dX7_restore_16 : decode cX7_restore 16 = .ok (.putfield 311, 3) := by decide +kernel
theorem dX7_restore_19 : decode cX7_restore 19 = .ok (.aload_n 0, 1) := by decide +kernel
theorem dX7_restore_20 : decode cX7_restore 20 = .ok (.invokevirtual 323, 3) := by decide +kernel
theorem dX7_restore_23 : decode cX7_restore 23 = .ok (.aload_n 0, 1) := by decide +kernel
theorem dX7_restore_24 : decode cX7_restore 24 = .ok (.getfield 111, 3) := by decide +kernel
theorem dX7_restore_27 : decode cX7_restore 27 = .ok (.ireturn, 1) := by decide +kernel
theorem dX7_count_0 : decode cX7_count 0 = .ok (.iload_n 1, 1) := by decide +kernel
theorem dX7_count_1 : decode cX7_count 1 = .ok (.tableswitch 138 0 9 #[55, 60, 65, 70, 75, 113, 118, 123, 128, 133], 55) := by decide +kernel
theorem dX7_count_56 : decode cX7_count 56 = .ok (.aload_n 0, 1) := by decide +kernel
theorem dX7_count_57 : decode cX7_count 57 = .ok (.getfield 111, 3) := by decide +kernel
theorem dX7_count_60 : decode cX7_count 60 = .ok (.ireturn, 1) := by decide +kernel
theorem dX7_count_61 : decode cX7_count 61 = .ok (.aload_n 0, 1) := by decide +kernel
theorem dX7_count_62 : decode cX7_count 62 = .ok (.getfield 132, 3) := by decide +kernel
theorem dX7_count_65 : decode cX7_count 65 = .ok (.ireturn, 1) := by decide +kernel
theorem dX7_count_66 : decode cX7_count 66 = .ok (.aload_n 0, 1) := by decide +kernel
theorem dX7_count_67 : decode cX7_count 67 = .ok (.getfield 147, 3) := by decide +kernel
theorem dX7_count_70 : decode cX7_count 70 = .ok (.ireturn, 1) := by decide +kernel
theorem dX7_count_71 : decode cX7_count 71 = .ok (.aload_n 0, 1) := by decide +kernel
theorem dX7_count_72 : decode cX7_count 72 = .ok (.getfield 186, 3) := by decide +kernel
theorem dX7_count_75 : decode cX7_count 75 = .ok (.ireturn, 1) := by decide +kernel
theorem dX7_count_76 : decode cX7_count 76 = .ok (.iconst 0, 1) := by decide +kernel
theorem dX7_count_77 : decode cX7_count 77 = .ok (.istore_n 2, 1) := by decide +kernel
theorem dX7_count_78 : decode cX7_count 78 = .ok (.iconst 0, 1) := by decide +kernel
theorem dX7_count_79 : decode cX7_count 79 = .ok (.istore_n 3, 1) := by decide +kernel
theorem dX7_count_80 : decode cX7_count 80 = .ok (.iload_n 3, 1) := by decide +kernel
theorem dX7_count_81 : decode cX7_count 81 = .ok (.iconst 2, 1) := by decide +kernel
theorem dX7_count_82 : decode cX7_count 82 = .ok (.aload_n 0, 1) := by decide +kernel
theorem dX7_count_83 : decode cX7_count 83 = .ok (.getfield 111, 3) := by decide +kernel
theorem dX7_count_86 : decode cX7_count 86 = .ok (.imul, 1) := by decide +kernel
theorem dX7_count_87 : decode cX7_count 87 = .ok (.if_icmp .ge 25, 3) := by decide +kernel
theorem dX7_count_90 : decode cX7_count 90 = .ok (.iload_n 2, 1) := by decide +kernel
theorem dX7_count_91 : decode cX7_count 91 = .ok (.aload_n 0, 1) := by decide +kernel
theorem dX7_count_92 : decode cX7_count 92 = .ok (.getfield 25, 3) := by decide +kernel
theorem dX7_count_95 : decode cX7_count 95 = .ok (.iload_n 3, 1) := by decide +kernel
theorem dX7_count_96 : decode cX7_count 96 = .ok (.iaload, 1) := by decide +kernel
theorem dX7_count_97 : decode cX7_count 97 = .ok (.aload_n 0, 1) := by decide +kernel
theorem dX7_count_98 : decode cX7_count 98 = .ok (.getfield 28, 3) := by decide +kernel
theorem dX7_count_101 : decode cX7_count 101 = .ok (.iload_n 3, 1) := by decide +kernel
theorem dX7_count_102 : decode cX7_count 102 = .ok (.iaload, 1) := by decide +kernel
theorem dX7_count_103 : decode cX7_count 103 = .ok (.iadd, 1) := by decide +kernel
theorem dX7_count_104 : decode cX7_count 104 = .ok (.iadd, 1) := by decide +kernel
theorem dX7_count_105 : decode cX7_count 105 = .ok (.istore_n 2, 1) := by decide +kernel
theorem dX7_count_106 : decode cX7_count 106 = .ok (.iinc 3 1, 3) := by decide +kernel
theorem dX7_count_109 : decode cX7_count 109 = .ok (.goto (-29), 3) := by decide +kernel
theorem dX7_count_112 : decode cX7_count 112 = .ok (.iload_n 2, 1) := by decide +kernel
theorem dX7_count_113 : decode cX7_count 113 = .ok (.ireturn, 1) := by decide +kernel
theorem dX7_count_114 : decode cX7_count 114 = .ok (.aload_n 0, 1) := by decide +kernel
theorem dX7_count_115 : decode cX7_count 115 = .ok (.getfield 194, 3) := by decide +kernel
theorem dX7_count_118 : decode cX7_count 118 = .ok (.ireturn, 1) := by decide +kernel
theorem dX7_count_119 : decode cX7_count 119 = .ok (.aload_n 0, 1) := by decide +kernel
theorem dX7_count_120 : decode cX7_count 120 = .ok (.getfield 203, 3) := by decide +kernel
theorem dX7_count_123 : decode cX7_count 123 = .ok (.ireturn, 1) := by decide +kernel
theorem dX7_count_124 : decode cX7_count 124 = .ok (.aload_n 0, 1) := by decide +kernel
theorem dX7_count_125 : decode cX7_count 125 = .ok (.getfield 108, 3) := by decide +kernel
theorem dX7_count_128 : decode cX7_count 128 = .ok (.ireturn, 1) := by decide +kernel
theorem dX7_count_129 : decode cX7_count 129 = .ok (.aload_n 0, 1) := by decide +kernel
theorem dX7_count_130 : decode cX7_count 130 = .ok (.getfield 261, 3) := by decide +kernel
theorem dX7_count_133 : decode cX7_count 133 = .ok (.ireturn, 1) := by decide +kernel
theorem dX7_count_134 : decode cX7_count 134 = .ok (.aload_n 0, 1) := by decide +kernel
theorem dX7_count_135 : decode cX7_count 135 = .ok (.getfield 62, 3) := by decide +kernel
theorem dX7_count_138 : decode cX7_count 138 = .ok (.ireturn, 1) := by decide +kernel
theorem dX7_count_139 : decode cX7_count 139 = .ok (.iload_n 1, 1) := by decide +kernel
theorem dX7_count_140 : decode cX7_count 140 = .ok (.i2l, 1) := by decide +kernel
theorem dX7_count_141 : decode cX7_count 141 = .ok (.ldc2_w 326, 3) := by decide +kernel
theorem dX7_count_144 : decode cX7_count 144 = .ok (.ldc2_w 328, 3) := by decide +kernel
theorem dX7_count_147 : decode cX7_count 147 = .ok (.invokestatic 114, 3) := by decide +kernel
theorem dX7_count_150 : decode cX7_count 150 = .ok (.ifCond .eq 15, 3) := by decide +kernel
theorem dX7_count_153 : decode cX7_count 153 = .ok (.aload_n 0, 1) := by decide +kernel
theorem dX7_count_154 : decode cX7_count 154 = .ok (.getfield 78, 3) := by decide +kernel
theorem dX7_count_157 : decode cX7_count 157 = .ok (.iload_n 1, 1) := by decide +kernel
theorem dX7_count_158 : decode cX7_count 158 = .ok (.bipush 10, 2) := by decide +kernel
theorem dX7_count_160 : decode cX7_count 160 = .ok (.isub, 1) := by decide +kernel
theorem dX7_count_161 : decode cX7_count 161 = .ok (.iaload, 1) := by decide +kernel
theorem dX7_count_162 : decode cX7_count 162 = .ok (.goto 5, 3) := by decide +kernel
theorem dX7_count_165 : decode cX7_count 165 = .ok (.bipush (-9), 2) := by decide +kernel
theorem dX7_count_167 : decode cX7_count 167 = .ok (.ireturn, 1) := by decide +kernel
theorem dL_law_0 : decode cL_law 0 = .ok (.new 7, 3) := by decide +kernel
theorem dL_law_3 : decode cL_law 3 = .ok (.dup, 1) := by decide +kernel
theorem dL_law_4 : decode cL_law 4 = .ok (.invokespecial 9, 3) := by decide +kernel
theorem dL_law_7 : decode cL_law 7 = .ok (.astore_n 1, 1) := by decide +kernel
theorem dL_law_8 : decode cL_law 8 = .ok (.new 10, 3) := by decide +kernel
theorem dL_law_11 : decode cL_law 11 = .ok (.dup, 1) := by decide +kernel
theorem dL_law_12 : decode cL_law 12 = .ok (.invokespecial 12, 3) := by decide +kernel
theorem dL_law_15 : decode cL_law 15 = .ok (.astore_n 2, 1) := by decide +kernel
theorem dL_law_16 : decode cL_law 16 = .ok (.iconst 0, 1) := by decide +kernel
theorem dL_law_17 : decode cL_law 17 = .ok (.istore_n 3, 1) := by decide +kernel
theorem dL_law_18 : decode cL_law 18 = .ok (.iload_n 3, 1) := by decide +kernel
theorem dL_law_19 : decode cL_law 19 = .ok (.aload_n 0, 1) := by decide +kernel
theorem dL_law_20 : decode cL_law 20 = .ok (.arraylength, 1) := by decide +kernel
theorem dL_law_21 : decode cL_law 21 = .ok (.bipush 6, 2) := by decide +kernel
theorem dL_law_23 : decode cL_law 23 = .ok (.isub, 1) := by decide +kernel
theorem dL_law_24 : decode cL_law 24 = .ok (.if_icmp .gt 1072, 3) := by decide +kernel
theorem dL_law_27 : decode cL_law 27 = .ok (.aload_n 0, 1) := by decide +kernel
theorem dL_law_28 : decode cL_law 28 = .ok (.iload_n 3, 1) := by decide +kernel
theorem dL_law_29 : decode cL_law 29 = .ok (.iaload, 1) := by decide +kernel
theorem dL_law_30 : decode cL_law 30 = .ok (.bipush 31, 2) := by decide +kernel
theorem dL_law_32 : decode cL_law 32 = .ok (.iand, 1) := by decide +kernel
theorem dL_law_33 : decode cL_law 33 = .ok (.tableswitch 1057 0 28 #[131, 194, 207, 240, 283, 336, 385, 428, 461, 530, 589, 612, 635, 668, 681, 704, 728, 751, 774, 837, 860, 883, 906, 929, 962, 985, 1008, 1021, 1034], 131) := by decide +kernel
theorem dL_law_164 : decode cL_law 164 = .ok (.aload_n 1, 1) := by decide +kernel
theorem dL_law_165 : decode cL_law 165 = .ok (.aload_n 0, 1) := by decide +kernel
theorem dL_law_166 : decode cL_law 166 = .ok (.iload_n 3, 1) := by decide +kernel
theorem dL_law_167 : decode cL_law 167 = .ok (.iconst 1, 1) := by decide +kernel
theorem dL_law_168 : decode cL_law 168 = .ok (.iadd, 1) := by decide +kernel
theorem dL_law_169 : decode cL_law 169 = .ok (.iaload, 1) := by decide +kernel
theorem dL_law_170 : decode cL_law 170 = .ok (.aload_n 0, 1) := by decide +kernel
theorem dL_law_171 : decode cL_law 171 = .ok (.iload_n 3, 1) := by decide +kernel
theorem dL_law_172 : decode cL_law 172 = .ok (.iconst 2, 1) := by decide +kernel
theorem dL_law_173 : decode cL_law 173 = .ok (.iadd, 1) := by decide +kernel
theorem dL_law_174 : decode cL_law 174 = .ok (.iaload, 1) := by decide +kernel
theorem dL_law_175 : decode cL_law 175 = .ok (.i2l, 1) := by decide +kernel
theorem dL_law_176 : decode cL_law 176 = .ok (.bipush 32, 2) := by decide +kernel
theorem dL_law_178 : decode cL_law 178 = .ok (.lshl, 1) := by decide +kernel

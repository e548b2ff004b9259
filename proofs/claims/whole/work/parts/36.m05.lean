theorem dX12_changed_0 : decode cX12_changed 0 = .ok (.aload_n 0, 1) := by decide +kernel
theorem dX12_changed_1 : decode cX12_changed 1 = .ok (.iconst 0, 1) := by decide +kernel
theorem dX12_changed_2 : decode cX12_changed 2 = .ok (.putfield 122, 3) := by decide +kernel
theorem dX12_changed_5 : decode cX12_changed 5 = .ok (.aload_n 0, 1) := by decide +kernel
theorem dX12_changed_6 : decode cX12_changed 6 = .ok (.iconst 0, 1) := by decide +kernel
theorem dX12_changed_7 : decode cX12_changed 7 = .ok (.putfield 125, 3) := by decide +kernel
theorem dX12_changed_10 : decode cX12_changed 10 = .ok (.aload_n 0, 1) := by decide +kernel
theorem dX12_changed_11 : decode cX12_changed 11 = .ok (.iload 4, 2) := by decide +kernel
theorem dX12_changed_13 : decode cX12_changed 13 = .ok (.invokevirtual 421, 3) := by decide +kernel
theorem dX12_changed_16 : decode cX12_changed 16 = .ok (.ifCond .eq 30, 3) := by decide +kernel
theorem dX12_changed_19 : decode cX12_changed 19 = .ok (.aload_n 0, 1) := by decide +kernel
theorem dX12_changed_20 : decode cX12_changed 20 = .ok (.iload 5, 2) := by decide +kernel
theorem dX12_changed_22 : decode cX12_changed 22 = .ok (.invokevirtual 421, 3) := by decide +kernel
theorem dX12_changed_25 : decode cX12_changed 25 = .ok (.ifCond .eq 21, 3) := by decide +kernel
theorem dX12_changed_28 : decode cX12_changed 28 = .ok (.aload_n 0, 1) := by decide +kernel
theorem dX12_changed_29 : decode cX12_changed 29 = .ok (.iload 6, 2) := by decide +kernel
theorem dX12_changed_31 : decode cX12_changed 31 = .ok (.invokevirtual 421, 3) := by decide +kernel
theorem dX12_changed_34 : decode cX12_changed 34 = .ok (.ifCond .eq 12, 3) := by decide +kernel
theorem dX12_changed_37 : decode cX12_changed 37 = .ok (.aload_n 0, 1) := by decide +kernel
theorem dX12_changed_38 : decode cX12_changed 38 = .ok (.iload 7, 2) := by decide +kernel
theorem dX12_changed_40 : decode cX12_changed 40 = .ok (.invokevirtual 421, 3) := by decide +kernel
theorem dX12_changed_43 : decode cX12_changed 43 = .ok (.ifCond .ne 9, 3) := by decide +kernel
theorem dX12_changed_46 : decode cX12_changed 46 = .ok (.aload_n 0, 1) := by decide +kernel
theorem dX12_changed_47 : decode cX12_changed 47 = .ok (.iconst 1, 1) := by decide +kernel
theorem dX12_changed_48 : decode cX12_changed 48 = .ok (.invokevirtual 283, 3) := by decide +kernel
theorem dX12_changed_51 : decode cX12_changed 51 = .ok (.ireturn, 1) := by decide +kernel
theorem dX12_changed_52 : decode cX12_changed 52 = .ok (.aload_n 0, 1) := by decide +kernel
theorem dX12_changed_53 : decode cX12_changed 53 = .ok (.iload_n 1, 1) := by decide +kernel
theorem dX12_changed_54 : decode cX12_changed 54 = .ok (.iload_n 2, 1) := by decide +kernel
theorem dX12_changed_55 : decode cX12_changed 55 = .ok (.invokevirtual 300, 3) := by decide +kernel
theorem dX12_changed_58 : decode cX12_changed 58 = .ok (.ifCond .eq 12, 3) := by decide +kernel
theorem dX12_changed_61 : decode cX12_changed 61 = .ok (.aload_n 0, 1) := by decide +kernel
theorem dX12_changed_62 : decode cX12_changed 62 = .ok (.iload_n 1, 1) := by decide +kernel
theorem dX12_changed_63 : decode cX12_changed 63 = .ok (.iload_n 3, 1) := by decide +kernel
theorem dX12_changed_64 : decode cX12_changed 64 = .ok (.invokevirtual 300, 3) := by decide +kernel
theorem dX12_changed_67 : decode cX12_changed 67 = .ok (.ifCond .ne 9, 3) := by decide +kernel
theorem dX12_changed_70 : decode cX12_changed 70 = .ok (.aload_n 0, 1) := by decide +kernel
theorem dX12_changed_71 : decode cX12_changed 71 = .ok (.iconst 2, 1) := by decide +kernel
theorem dX12_changed_72 : decode cX12_changed 72 = .ok (.invokevirtual 283, 3) := by decide +kernel
theorem dX12_changed_75 : decode cX12_changed 75 = .ok (.ireturn, 1) := by decide +kernel
theorem dX12_changed_76 : decode cX12_changed 76 = .ok (.aload_n 0, 1) := by decide +kernel
theorem dX12_changed_77 : decode cX12_changed 77 = .ok (.getfield 17, 3) := by decide +kernel
theorem dX12_changed_80 : decode cX12_changed 80 = .ok (.iload 4, 2) := by decide +kernel
theorem dX12_changed_82 : decode cX12_changed 82 = .ok (.iaload, 1) := by decide +kernel
theorem dX12_changed_83 : decode cX12_changed 83 = .ok (.ifCond .lt 33, 3) := by decide +kernel
theorem dX12_changed_86 : decode cX12_changed 86 = .ok (.aload_n 0, 1) := by decide +kernel
theorem dX12_changed_87 : decode cX12_changed 87 = .ok (.getfield 17, 3) := by decide +kernel
theorem dX12_changed_90 : decode cX12_changed 90 = .ok (.iload 5, 2) := by decide +kernel
theorem dX12_changed_92 : decode cX12_changed 92 = .ok (.iaload, 1) := by decide +kernel
theorem dX12_changed_93 : decode cX12_changed 93 = .ok (.ifCond .lt 23, 3) := by decide +kernel
theorem dX12_changed_96 : decode cX12_changed 96 = .ok (.aload_n 0, 1) := by decide +kernel
theorem dX12_changed_97 : decode cX12_changed 97 = .ok (.getfield 17, 3) := by decide +kernel
theorem dX12_changed_100 : decode cX12_changed 100 = .ok (.iload 6, 2) := by decide +kernel
theorem dX12_changed_102 : decode cX12_changed 102 = .ok (.iaload, 1) := by decide +kernel
theorem dX12_changed_103 : decode cX12_changed 103 = .ok (.ifCond .lt 13, 3) := by decide +kernel
theorem dX12_changed_106 : decode cX12_changed 106 = .ok (.aload_n 0, 1) := by decide +kernel
theorem dX12_changed_107 : decode cX12_changed 107 = .ok (.getfield 17, 3) := by decide +kernel
theorem dX12_changed_110 : decode cX12_changed 110 = .ok (.iload 7, 2) := by decide +kernel
theorem dX12_changed_112 : decode cX12_changed 112 = .ok (.iaload, 1) := by decide +kernel
theorem dX12_changed_113 : decode cX12_changed 113 = .ok (.ifCond .ge 9, 3) := by decide +kernel
theorem dX12_changed_116 : decode cX12_changed 116 = .ok (.aload_n 0, 1) := by decide +kernel
theorem dX12_changed_117 : decode cX12_changed 117 = .ok (.iconst 3, 1) := by decide +kernel
theorem dX12_changed_118 : decode cX12_changed 118 = .ok (.invokevirtual 283, 3) := by decide +kernel
theorem dX12_changed_121 : decode cX12_changed 121 = .ok (.ireturn, 1) := by decide +kernel
theorem dX12_changed_122 : decode cX12_changed 122 = .ok (.iload 8, 2) := by decide +kernel
theorem dX12_changed_124 : decode cX12_changed 124 = .ok (.i2l, 1) := by decide +kernel
theorem dX12_changed_125 : decode cX12_changed 125 = .ok (.lconst 1, 1) := by decide +kernel
theorem dX12_changed_126 : decode cX12_changed 126 = .ok (.ldc2_w 316, 3) := by decide +kernel
theorem dX12_changed_129 : decode cX12_changed 129 = .ok (.invokestatic 239, 3) := by decide +kernel
theorem dX12_changed_132 : decode cX12_changed 132 = .ok (.ifCond .eq 16, 3) := by decide +kernel
theorem dX12_changed_135 : decode cX12_changed 135 = .ok (.iload 9, 2) := by decide +kernel
theorem dX12_changed_137 : decode cX12_changed 137 = .ok (.i2l, 1) := by decide +kernel
theorem dX12_changed_138 : decode cX12_changed 138 = .ok (.lconst 0, 1) := by decide +kernel
theorem dX12_changed_139 : decode cX12_changed 139 = .ok (.ldc2_w 436, 3) := by decide +kernel
theorem dX12_changed_142 : decode cX12_changed 142 = .ok (.invokestatic 239, 3) := by decide +kernel
theorem dX12_changed_145 : decode cX12_changed 145 = .ok (.ifCond .ne 9, 3) := by decide +kernel
theorem dX12_changed_148 : decode cX12_changed 148 = .ok (.aload_n 0, 1) := by decide +kernel
theorem dX12_changed_149 : decode cX12_changed 149 = .ok (.iconst 5, 1) := by decide +kernel
theorem dX12_changed_150 : decode cX12_changed 150 = .ok (.invokevirtual 283, 3) := by decide +kernel
theorem dX12_changed_153 : decode cX12_changed 153 = .ok (.ireturn, 1) := by decide +kernel
theorem dX12_changed_154 : decode cX12_changed 154 = .ok (.aload_n 0, 1) := by decide +kernel
theorem dX12_changed_155 : decode cX12_changed 155 = .ok (.getfield 17, 3) := by decide +kernel
theorem dX12_changed_158 : decode cX12_changed 158 = .ok (.iload 4, 2) := by decide +kernel
theorem dX12_changed_160 : decode cX12_changed 160 = .ok (.iaload, 1) := by decide +kernel
theorem dX12_changed_161 : decode cX12_changed 161 = .ok (.iload 8, 2) := by decide +kernel
theorem dX12_changed_163 : decode cX12_changed 163 = .ok (.if_icmp .lt 39, 3) := by decide +kernel
theorem dX12_changed_166 : decode cX12_changed 166 = .ok (.aload_n 0, 1) := by decide +kernel
theorem dX12_changed_167 : decode cX12_changed 167 = .ok (.getfield 17, 3) := by decide +kernel
theorem dX12_changed_170 : decode cX12_changed 170 = .ok (.iload 5, 2) := by decide +kernel
theorem dX12_changed_172 : decode cX12_changed 172 = .ok (.iaload, 1) := by decide +kernel
theorem dX12_changed_173 : decode cX12_changed 173 = .ok (.iload 8, 2) := by decide +kernel
theorem dX12_changed_175 : decode cX12_changed 175 = .ok (.if_icmp .lt 27, 3) := by decide +kernel
theorem dX12_changed_178 : decode cX12_changed 178 = .ok (.aload_n 0, 1) := by decide +kernel
theorem dX12_changed_179 : decode cX12_changed 179 = .ok (.getfield 17, 3) := by decide +kernel
theorem dX12_changed_182 : decode cX12_changed 182 = .ok (.iload 6, 2) := by decide +kernel
theorem dX12_changed_184 : decode cX12_changed 184 = .ok (.iaload, 1) := by decide +kernel
theorem dX12_changed_185 : decode cX12_changed 185 = .ok (.iload 8, 2) := by decide +kernel
theorem dX12_changed_187 : decode cX12_changed 187 = .ok (.if_icmp .lt 15, 3) := by decide +kernel
theorem dX12_changed_190 : decode cX12_changed 190 = .ok (.aload_n 0, 1) := by decide +kernel
theorem dX12_changed_191 : decode cX12_changed 191 = .ok (.getfield 17, 3) := by decide +kernel
theorem dX12_changed_194 : decode cX12_changed 194 = .ok (.iload 7, 2) := by decide +kernel
theorem dX12_changed_196 : decode cX12_changed 196 = .ok (.iaload, 1) := by decide +kernel
theorem dX12_changed_197 : decode cX12_changed 197 = .ok (.iload 8, 2) := by decide +kernel
theorem dX12_changed_199 : decode cX12_changed 199 = .ok (.if_icmp .ge 9, 3) := by decide +kernel
theorem dX12_changed_202 : decode cX12_changed 202 = .ok (.aload_n 0, 1) := by decide +kernel
theorem dX12_changed_203 : decode cX12_changed 203 = .ok (.iconst 4, 1) := by decide +kernel
theorem dX12_changed_204 : decode cX12_changed 204 = .ok (.invokevirtual 283, 3) := by decide +kernel
theorem dX12_changed_207 : decode cX12_changed 207 = .ok (.ireturn, 1) := by decide +kernel
theorem dX12_changed_208 : decode cX12_changed 208 = .ok (.aload_n 0, 1) := by decide +kernel
theorem dX12_changed_209 : decode cX12_changed 209 = .ok (.iload 4, 2) := by decide +kernel
theorem dX12_changed_211 : decode cX12_changed 211 = .ok (.iload 5, 2) := by decide +kernel
theorem dX12_changed_213 : decode cX12_changed 213 = .ok (.iload 8, 2) := by decide +kernel
theorem dX12_changed_215 : decode cX12_changed 215 = .ok (.invokevirtual 424, 3) := by decide +kernel
theorem dX12_changed_218 : decode cX12_changed 218 = .ok (.ifCond .eq 16, 3) := by decide +kernel
theorem dX12_changed_221 : decode cX12_changed 221 = .ok (.aload_n 0, 1) := by decide +kernel
theorem dX12_changed_222 : decode cX12_changed 222 = .ok (.iload 6, 2) := by decide +kernel
theorem dX12_changed_224 : decode cX12_changed 224 = .ok (.iload 7, 2) := by decide +kernel
theorem dX12_changed_226 : decode cX12_changed 226 = .ok (.iload 8, 2) := by decide +kernel
theorem dX12_changed_228 : decode cX12_changed 228 = .ok (.invokevirtual 424, 3) := by decide +kernel
theorem dX12_changed_231 : decode cX12_changed 231 = .ok (.ifCond .ne 9, 3) := by decide +kernel
theorem dX12_changed_234 : decode cX12_changed 234 = .ok (.aload_n 0, 1) := by decide +kernel
theorem dX12_changed_235 : decode cX12_changed 235 = .ok (.iconst 5, 1) := by decide +kernel
theorem dX12_changed_236 : decode cX12_changed 236 = .ok (.invokevirtual 283, 3) := by decide +kernel
theorem dX12_changed_239 : decode cX12_changed 239 = .ok (.ireturn, 1) := by decide +kernel
theorem dX12_changed_240 : decode cX12_changed 240 = .ok (.aload_n 0, 1) := by decide +kernel
theorem dX12_changed_241 : decode cX12_changed 241 = .ok (.iload_n 1, 1) := by decide +kernel
theorem dX12_changed_242 : decode cX12_changed 242 = .ok (.iload_n 2, 1) := by decide +kernel
theorem dX12_changed_243 : decode cX12_changed 243 = .ok (.iload_n 3, 1) := by decide +kernel
theorem dX12_changed_244 : decode cX12_changed 244 = .ok (.iload 4, 2) := by decide +kernel
theorem dX12_changed_246 : decode cX12_changed 246 = .ok (.iload 5, 2) := by decide +kernel
theorem dX12_changed_248 : decode cX12_changed 248 = .ok (.iload 8, 2) := by decide +kernel
theorem dX12_changed_250 : decode cX12_changed 250 = .ok (.invokevirtual 432, 3) := by decide +kernel
theorem dX12_changed_253 : decode cX12_changed 253 = .ok (.aload_n 0, 1) := by decide +kernel
theorem dX12_changed_254 : decode cX12_changed 254 = .ok (.getfield 418, 3) := by decide +kernel
theorem dX12_changed_257 : decode cX12_changed 257 = .ok (.lconst 0, 1) := by decide +kernel
theorem dX12_changed_258 : decode cX12_changed 258 = .ok (.lcmp, 1) := by decide +kernel
theorem dX12_changed_259 : decode cX12_changed 259 = .ok (.ifCond .ne 10, 3) := by decide +kernel
theorem dX12_changed_262 : decode cX12_changed 262 = .ok (.aload_n 0, 1) := by decide +kernel
theorem dX12_changed_263 : decode cX12_changed 263 = .ok (.bipush 9, 2) := by decide +kernel
theorem dX12_changed_265 : decode cX12_changed 265 = .ok (.invokevirtual 283, 3) := by decide +kernel
theorem dX12_changed_268 : decode cX12_changed 268 = .ok (.ireturn, 1) := by decide +kernel
theorem dX12_changed_269 : decode cX12_changed 269 = .ok (.iconst 0, 1) := by decide +kernel
theorem dX12_changed_270 : decode cX12_changed 270 = .ok (.istore 10, 2) := by decide +kernel
theorem dX12_changed_272 : decode cX12_changed 272 = .ok (.iload 10, 2) := by decide +kernel
theorem dX12_changed_274 : decode cX12_changed 274 = .ok (.aload_n 0, 1) := by decide +kernel
theorem dX12_changed_275 : decode cX12_changed 275 = .ok (.getfield 405, 3) := by decide +kernel
theorem dX12_changed_278 : decode cX12_changed 278 = .ok (.if_icmp .ge 29, 3) := by decide +kernel
theorem dX12_changed_281 : decode cX12_changed 281 = .ok (.aload_n 0, 1) := by decide +kernel
theorem dX12_changed_282 : decode cX12_changed 282 = .ok (.getfield 116, 3) := by decide +kernel
theorem dX12_changed_285 : decode cX12_changed 285 = .ok (.iload 10, 2) := by decide +kernel
theorem dX12_changed_287 : decode cX12_changed 287 = .ok (.aload_n 0, 1) := by decide +kernel
theorem dX12_changed_288 : decode cX12_changed 288 = .ok (.iconst 0, 1) := by decide +kernel
theorem dX12_changed_289 : decode cX12_changed 289 = .ok (.iconst 0, 1) := by decide +kernel
theorem dX12_changed_290 : decode cX12_changed 290 = .ok (.iload 10, 2) := by decide +kernel
theorem dX12_changed_292 : decode cX12_changed 292 = .ok (.invokevirtual 415, 3) := by decide +kernel
theorem dX12_changed_295 : decode cX12_changed 295 = .ok (.aload_n 0, 1) := by decide +kernel
theorem dX12_changed_296 : decode cX12_changed 296 = .ok (.getfield 418, 3) := by decide +kernel
theorem dX12_changed_299 : decode cX12_changed 299 = .ok (.ldiv, 1) := by decide +kernel
theorem dX12_changed_300 : decode cX12_changed 300 = .ok (.lastore, 1) := by decide +kernel
theorem dX12_changed_301 : decode cX12_changed 301 = .ok (.iinc 10 1, 3) := by decide +kernel
theorem dX12_changed_304 : decode cX12_changed 304 = .ok (.goto (-32), 3) := by decide +kernel
theorem dX12_changed_307 : decode cX12_changed 307 = .ok (.aload_n 0, 1) := by decide +kernel
theorem dX12_changed_308 : decode cX12_changed 308 = .ok (.iload_n 1, 1) := by decide +kernel
theorem dX12_changed_309 : decode cX12_changed 309 = .ok (.iload_n 2, 1) := by decide +kernel
theorem dX12_changed_310 : decode cX12_changed 310 = .ok (.iload_n 3, 1) := by decide +kernel
theorem dX12_changed_311 : decode cX12_changed 311 = .ok (.iload 6, 2) := by decide +kernel
theorem dX12_changed_313 : decode cX12_changed 313 = .ok (.iload 7, 2) := by decide +kernel
theorem dX12_changed_315 : decode cX12_changed 315 = .ok (.iload 8, 2) := by decide +kernel
theorem dX12_changed_317 : decode cX12_changed 317 = .ok (.invokevirtual 432, 3) := by decide +kernel
theorem dX12_changed_320 : decode cX12_changed 320 = .ok (.aload_n 0, 1) := by decide +kernel
theorem dX12_changed_321 : decode cX12_changed 321 = .ok (.getfield 418, 3) := by decide +kernel
theorem dX12_changed_324 : decode cX12_changed 324 = .ok (.lconst 0, 1) := by decide +kernel
theorem dX12_changed_325 : decode cX12_changed 325 = .ok (.lcmp, 1) := by decide +kernel
theorem dX12_changed_326 : decode cX12_changed 326 = .ok (.ifCond .ne 10, 3) := by decide +kernel
theorem dX12_changed_329 : decode cX12_changed 329 = .ok (.aload_n 0, 1) := by decide +kernel
theorem dX12_changed_330 : decode cX12_changed 330 = .ok (.bipush 9, 2) := by decide +kernel
theorem dX12_changed_332 : decode cX12_changed 332 = .ok (.invokevirtual 283, 3) := by decide +kernel
theorem dX12_changed_335 : decode cX12_changed 335 = .ok (.ireturn, 1) := by decide +kernel
theorem dX12_changed_336 : decode cX12_changed 336 = .ok (.iconst 0, 1) := by decide +kernel
theorem dX12_changed_337 : decode cX12_changed 337 = .ok (.istore 10, 2) := by decide +kernel
theorem dX12_changed_339 : decode cX12_changed 339 = .ok (.iconst 1, 1) := by decide +kernel
theorem dX12_changed_340 : decode cX12_changed 340 = .ok (.istore 11, 2) := by decide +kernel
theorem dX12_changed_342 : decode cX12_changed 342 = .ok (.iload 11, 2) := by decide +kernel
theorem dX12_changed_344 : decode cX12_changed 344 = .ok (.aload_n 0, 1) := by decide +kernel
theorem dX12_changed_345 : decode cX12_changed 345 = .ok (.getfield 405, 3) := by decide +kernel
theorem dX12_changed_348 : decode cX12_changed 348 = .ok (.if_icmp .ge 58, 3) := by decide +kernel
theorem dX12_changed_351 : decode cX12_changed 351 = .ok (.aload_n 0, 1) := by decide +kernel
theorem dX12_changed_352 : decode cX12_changed 352 = .ok (.iconst 0, 1) := by decide +kernel
theorem dX12_changed_353 : decode cX12_changed 353 = .ok (.iconst 0, 1) := by decide +kernel
theorem dX12_changed_354 : decode cX12_changed 354 = .ok (.iload 11, 2) := by decide +kernel
theorem dX12_changed_356 : decode cX12_changed 356 = .ok (.invokevirtual 415, 3) := by decide +kernel
theorem dX12_changed_359 : decode cX12_changed 359 = .ok (.aload_n 0, 1) := by decide +kernel
theorem dX12_changed_360 : decode cX12_changed 360 = .ok (.getfield 418, 3) := by decide +kernel
theorem dX12_changed_363 : decode cX12_changed 363 = .ok (.ldiv, 1) := by decide +kernel
theorem dX12_changed_364 : decode cX12_changed 364 = .ok (.aload_n 0, 1) := by decide +kernel
theorem dX12_changed_365 : decode cX12_changed 365 = .ok (.getfield 116, 3) := by decide +kernel
theorem dX12_changed_368 : decode cX12_changed 368 = .ok (.iload 11, 2) := by decide +kernel
theorem dX12_changed_370 : decode cX12_changed 370 = .ok (.laload, 1) := by decide +kernel
theorem dX12_changed_371 : decode cX12_changed 371 = .ok (.lsub, 1) := by decide +kernel
theorem dX12_changed_372 : decode cX12_changed 372 = .ok (.invokestatic 131, 3) := by decide +kernel
theorem dX12_changed_375 : decode cX12_changed 375 = .ok (.iload 9, 2) := by decide +kernel
theorem dX12_changed_377 : decode cX12_changed 377 = .ok (.i2l, 1) := by decide +kernel
theorem dX12_changed_378 : decode cX12_changed 378 = .ok (.lcmp, 1) := by decide +kernel
theorem dX12_changed_379 : decode cX12_changed 379 = .ok (.ifCond .le 21, 3) := by decide +kernel
theorem dX12_changed_382 : decode cX12_changed 382 = .ok (.iload 10, 2) := by decide +kernel
theorem dX12_changed_384 : decode cX12_changed 384 = .ok (.iconst 1, 1) := by decide +kernel
theorem dX12_changed_385 : decode cX12_changed 385 = .ok (.iload 11, 2) := by decide +kernel
theorem dX12_changed_387 : decode cX12_changed 387 = .ok (.iconst 3, 1) := by decide +kernel
theorem dX12_changed_388 : decode cX12_changed 388 = .ok (.if_icmp .ge 7, 3) := by decide +kernel
theorem dX12_changed_391 : decode cX12_changed 391 = .ok (.iload_n 2, 1) := by decide +kernel
theorem dX12_changed_392 : decode cX12_changed 392 = .ok (.goto 4, 3) := by decide +kernel
theorem dX12_changed_395 : decode cX12_changed 395 = .ok (.iload_n 3, 1) := by decide +kernel
theorem dX12_changed_396 : decode cX12_changed 396 = .ok (.ishl, 1) := by decide +kernel
theorem dX12_changed_397 : decode cX12_changed 397 = .ok (.ior, 1) := by decide +kernel
theorem dX12_changed_398 : decode cX12_changed 398 = .ok (.istore 10, 2) := by decide +kernel
theorem dX12_changed_400 : decode cX12_changed 400 = .ok (.iinc 11 1, 3) := by decide +kernel
theorem dX12_changed_403 : decode cX12_changed 403 = .ok (.goto (-61), 3) := by decide +kernel
theorem dX12_changed_406 : decode cX12_changed 406 = .ok (.iload 10, 2) := by decide +kernel
theorem dX12_changed_408 : decode cX12_changed 408 = .ok (.ireturn, 1) := by decide +kernel
noncomputable def f_X12_changed_116 (σ : am_H) : Option (Int32 × am_H) :=
  (f_X12_refuse 3 σ).bind fun p1 =>
  some (p1.1, p1.2)
set_option maxRecDepth 100000 in
set_option maxHeartbeats 4000000 in
theorem q_X12_changed_116 {X : am_X} (hX : am_ks X = am_ksM) {Q : Option Value → am_H → Prop} (σ : am_H) {o : Int32 × am_H} (hf : f_X12_changed_116 σ = some o) (hk : Q (some (.int o.1)) o.2) : am_G X gm_X12_changed Q 116 [(0, .ref (am_ad X 12 0))] [] σ := by
  unfold f_X12_changed_116 at hf
  refine g_aload_n (pc := 116) 0 rfl dX12_changed_116 rfl ?_
  refine g_iconst (pc := 117) (v := 3) dX12_changed_117 (by decide) ?_
  obtain ⟨p1, hp1, hf⟩ := am_bd hf
  refine g_cV (pc := 118) (As := [.int 3]) (st := []) (st1 := [.int p1.1]) (in_12 hX (by omega)) kk_12 mV_X12_refuse ln_X12_283 rfl (Nat.le_of_ble_eq_true rfl) (Nat.le_of_ble_eq_true rfl) (k_X12_refuse hX 3 σ hp1) dX12_changed_118 rfl rfl ?_
  have ho := Option.some.inj hf
  subst ho
  exact g_ireturn (pc := 121) (st := []) rfl dX12_changed_121 hk
noncomputable def f_X12_changed_202 (σ : am_H) : Option (Int32 × am_H) :=
  (f_X12_refuse 4 σ).bind fun p1 =>
  some (p1.1, p1.2)
set_option maxRecDepth 100000 in
set_option maxHeartbeats 4000000 in
theorem q_X12_changed_202 {X : am_X} (hX : am_ks X = am_ksM) {Q : Option Value → am_H → Prop} (σ : am_H) {o : Int32 × am_H} (hf : f_X12_changed_202 σ = some o) (hk : Q (some (.int o.1)) o.2) : am_G X gm_X12_changed Q 202 [(0, .ref (am_ad X 12 0))] [] σ := by
  unfold f_X12_changed_202 at hf
  refine g_aload_n (pc := 202) 0 rfl dX12_changed_202 rfl ?_
  refine g_iconst (pc := 203) (v := 4) dX12_changed_203 (by decide) ?_
  obtain ⟨p1, hp1, hf⟩ := am_bd hf
  refine g_cV (pc := 204) (As := [.int 4]) (st := []) (st1 := [.int p1.1]) (in_12 hX (by omega)) kk_12 mV_X12_refuse ln_X12_283 rfl (Nat.le_of_ble_eq_true rfl) (Nat.le_of_ble_eq_true rfl) (k_X12_refuse hX 4 σ hp1) dX12_changed_204 rfl rfl ?_
  have ho := Option.some.inj hf
  subst ho
  exact g_ireturn (pc := 207) (st := []) rfl dX12_changed_207 hk
noncomputable def f_X12_changed_272 (v1 : Int32) (v2 : Int32) (v3 : Int32) (v6 : Int32) (v7 : Int32) (v8 : Int32) (v9 : Int32) (v10 : Int32) (σ : am_H) : Option ((Int32 × am_H) ⊕ (am_H)) :=
  if v10 < (σ.1 12 0 81) then
   ((f_X12_reckon 8 0 0 v10 σ).bind fun p2 =>
   if (σ.2.1 12 0 82) = 0 then none else
   (am_ix 5 v10).bind fun j4 =>
   (some (am_wL σ 1384 0 j4 (p2 / (σ.2.1 12 0 82)))).bind fun s5 =>
   some (.inl ((v10 + 1), s5)))
  else
  some (.inr σ)
set_option maxRecDepth 100000 in
set_option maxHeartbeats 4000000 in
theorem q_X12_changed_272 {X : am_X} (hX : am_ks X = am_ksM) {Q : Option Value → am_H → Prop} (v1 : Int32) (v2 : Int32) (v3 : Int32) (v6 : Int32) (v7 : Int32) (v8 : Int32) (v9 : Int32) (v10 : Int32) (σ : am_H) {o : (Int32 × am_H) ⊕ (am_H)} (hf : f_X12_changed_272 v1 v2 v3 v6 v7 v8 v9 v10 σ = some o) (hk0 : ∀ s, o = .inl s → am_G X gm_X12_changed Q 272 [(0, .ref (am_ad X 12 0)), (1, .int v1), (2, .int v2), (3, .int v3), (6, .int v6), (7, .int v7), (8, .int v8), (9, .int v9), (10, .int s.1)] [] s.2) (hk1 : ∀ t, o = .inr t → am_G X gm_X12_changed Q 307 [(0, .ref (am_ad X 12 0)), (1, .int v1), (2, .int v2), (3, .int v3), (6, .int v6), (7, .int v7), (8, .int v8), (9, .int v9)] [] t) : am_G X gm_X12_changed Q 272 [(0, .ref (am_ad X 12 0)), (1, .int v1), (2, .int v2), (3, .int v3), (6, .int v6), (7, .int v7), (8, .int v8), (9, .int v9), (10, .int v10)] [] σ := by
  unfold f_X12_changed_272 at hf
  refine g_iload (pc := 272) 8 rfl dX12_changed_272 ?_
  refine g_aload_n (pc := 274) 0 rfl dX12_changed_274 rfl ?_
  refine g_getI (pc := 275) (in_12 hX (by omega)) fr_X12_405 dX12_changed_275 ?_
  refine bi_ge (pc := 278) 307 dX12_changed_278 rfl (fun c1 => ?_) (fun c1 => ?_)
  · replace hf := am_ifT c1 hf
    refine g_aload_n (pc := 281) 0 rfl dX12_changed_281 rfl ?_
    refine g_getC (pc := 282) (e := 0) (in_12 hX (by omega)) fr_X12_116 dX12_changed_282 rfl ?_
    refine g_iload (pc := 285) 8 rfl dX12_changed_285 ?_
    refine g_aload_n (pc := 287) 0 rfl dX12_changed_287 rfl ?_
    refine g_iconst (pc := 288) (v := 0) dX12_changed_288 (by decide) ?_
    refine g_iconst (pc := 289) (v := 0) dX12_changed_289 (by decide) ?_
    refine g_iload (pc := 290) 8 rfl dX12_changed_290 ?_
    obtain ⟨p2, hp2, hf⟩ := am_bd hf
    refine g_cV (pc := 292) (As := [.int 0, .int 0, .int v10]) (st := [.int v10, .ref (am_ad X 1384 0)]) (st1 := [.long p2, .int v10, .ref (am_ad X 1384 0)]) (in_12 hX (by omega)) kk_12 (mV_X12_reckon _) ln_X12_415 rfl (Nat.le_of_ble_eq_true rfl) (Nat.le_of_ble_eq_true rfl) (k_X12_reckon hX 8 0 0 v10 σ hp2) dX12_changed_292 rfl rfl ?_
    refine g_aload_n (pc := 295) 0 rfl dX12_changed_295 rfl ?_
    refine g_getJ (pc := 296) (in_12 hX (by omega)) fr_X12_418 dX12_changed_296 ?_
    by_cases z3 : (σ.2.1 12 0 82) = 0
    · exact absurd (am_ifT z3 hf) (by simp)
    replace hf := am_ifF z3 hf
    refine g_ldiv (pc := 299) dX12_changed_299 z3 ?_
    obtain ⟨j4, hj4, hf⟩ := am_bd hf
    have gj4 := am_ix_lt hj4
    obtain ⟨s5, hs5, hf⟩ := am_bd hf
    refine g_sJ (pc := 300) (in_1384 hX (by omega)) ak_1384 hj4 dX12_changed_300 (Option.some.inj hs5) ?_
    refine g_iinc (pc := 301) (v := (v10 + 1)) 8 [(10, .int (v10 + 1)), (0, .ref (am_ad X 12 0)), (1, .int v1), (2, .int v2), (3, .int v3), (6, .int v6), (7, .int v7), (8, .int v8), (9, .int v9)] dX12_changed_301 rfl rfl (Nat.le_of_ble_eq_true rfl) rfl ?_
    refine g_goto (pc := 304) 272 dX12_changed_304 rfl ?_
    have hz := hk0 _ (Option.some.inj hf).symm
    exact am_sub [1, 2, 3, 4, 5, 6, 7, 8, 0] rfl hz
  replace hf := am_ifF c1 hf
  have hz := hk1 _ (Option.some.inj hf).symm
  exact am_sub [0, 1, 2, 3, 4, 5, 6, 7] rfl hz
set_option maxRecDepth 100000 in
set_option maxHeartbeats 4000000 in
theorem l_X12_changed_272 {X : am_X} (hX : am_ks X = am_ksM) {Q : Option Value → am_H → Prop} (v1 : Int32) (v2 : Int32) (v3 : Int32) (v6 : Int32) (v7 : Int32) (v8 : Int32) (v9 : Int32) (σ : am_H) (s : Int32 × am_H) {o : am_H} (hf : am_loop (fun s => f_X12_changed_272 v1 v2 v3 v6 v7 v8 v9 s.1 s.2) s = some o) (hk1 : ∀ t, o = t → am_G X gm_X12_changed Q 307 [(0, .ref (am_ad X 12 0)), (1, .int v1), (2, .int v2), (3, .int v3), (6, .int v6), (7, .int v7), (8, .int v8), (9, .int v9)] [] t) : am_G X gm_X12_changed Q 272 [(0, .ref (am_ad X 12 0)), (1, .int v1), (2, .int v2), (3, .int v3), (6, .int v6), (7, .int v7), (8, .int v8), (9, .int v9), (10, .int s.1)] [] s.2 := by
  refine am_loop_ind (P := fun s => am_G X gm_X12_changed Q 272 [(0, .ref (am_ad X 12 0)), (1, .int v1), (2, .int v2), (3, .int v3), (6, .int v6), (7, .int v7), (8, .int v8), (9, .int v9), (10, .int s.1)] [] s.2) (K := fun r => r = o) ?_ hf rfl
  intro s o1 hb hi hr
  exact q_X12_changed_272 hX v1 v2 v3 v6 v7 v8 v9 s.1  s.2 hb hi (fun t e => hk1 t (hr _ e).symm)
noncomputable def f_X12_changed_342 (v2 : Int32) (v3 : Int32) (v9 : Int32) (v10 : Int32) (v11 : Int32) (σ : am_H) : Option ((Int32 × Int32) ⊕ (Int32)) :=
  if v11 < (σ.1 12 0 81) then
   ((f_X12_reckon 8 0 0 v11 σ).bind fun p2 =>
   if (σ.2.1 12 0 82) = 0 then none else
   (am_ix 5 v11).bind fun j4 =>
   if (Int32.toInt64 v9) < (am_abL ((p2 / (σ.2.1 12 0 82)) - (σ.2.1 1384 0 j4))) then
    (if v11 < 3 then
     (some (.inl ((v10 ||| (1 <<< (v2 &&& 31))), (v11 + 1))))
    else
    some (.inl ((v10 ||| (1 <<< (v3 &&& 31))), (v11 + 1))))
   else
   some (.inl (v10, (v11 + 1))))
  else
  some (.inr v10)
set_option maxRecDepth 100000 in
set_option maxHeartbeats 4000000 in
theorem q_X12_changed_342 {X : am_X} (hX : am_ks X = am_ksM) {Q : Option Value → am_H → Prop} (v2 : Int32) (v3 : Int32) (v9 : Int32) (v10 : Int32) (v11 : Int32) (σ : am_H) {o : (Int32 × Int32) ⊕ (Int32)} (hf : f_X12_changed_342 v2 v3 v9 v10 v11 σ = some o) (hk0 : ∀ s, o = .inl s → am_G X gm_X12_changed Q 342 [(0, .ref (am_ad X 12 0)), (2, .int v2), (3, .int v3), (9, .int v9), (10, .int s.1), (11, .int s.2)] [] σ) (hk1 : ∀ t, o = .inr t → am_G X gm_X12_changed Q 406 [(10, .int t)] [] σ) : am_G X gm_X12_changed Q 342 [(0, .ref (am_ad X 12 0)), (2, .int v2), (3, .int v3), (9, .int v9), (10, .int v10), (11, .int v11)] [] σ := by
  unfold f_X12_changed_342 at hf
  refine g_iload (pc := 342) 5 rfl dX12_changed_342 ?_
  refine g_aload_n (pc := 344) 0 rfl dX12_changed_344 rfl ?_
  refine g_getI (pc := 345) (in_12 hX (by omega)) fr_X12_405 dX12_changed_345 ?_
  refine bi_ge (pc := 348) 406 dX12_changed_348 rfl (fun c1 => ?_) (fun c1 => ?_)
  · replace hf := am_ifT c1 hf
    refine g_aload_n (pc := 351) 0 rfl dX12_changed_351 rfl ?_
    refine g_iconst (pc := 352) (v := 0) dX12_changed_352 (by decide) ?_
    refine g_iconst (pc := 353) (v := 0) dX12_changed_353 (by decide) ?_
    refine g_iload (pc := 354) 5 rfl dX12_changed_354 ?_
    obtain ⟨p2, hp2, hf⟩ := am_bd hf
    refine g_cV (pc := 356) (As := [.int 0, .int 0, .int v11]) (st := []) (st1 := [.long p2]) (in_12 hX (by omega)) kk_12 (mV_X12_reckon _) ln_X12_415 rfl (Nat.le_of_ble_eq_true rfl) (Nat.le_of_ble_eq_true rfl) (k_X12_reckon hX 8 0 0 v11 σ hp2) dX12_changed_356 rfl rfl ?_
    refine g_aload_n (pc := 359) 0 rfl dX12_changed_359 rfl ?_
    refine g_getJ (pc := 360) (in_12 hX (by omega)) fr_X12_418 dX12_changed_360 ?_
    by_cases z3 : (σ.2.1 12 0 82) = 0
    · exact absurd (am_ifT z3 hf) (by simp)
    replace hf := am_ifF z3 hf
    refine g_ldiv (pc := 363) dX12_changed_363 z3 ?_
    refine g_aload_n (pc := 364) 0 rfl dX12_changed_364 rfl ?_
    refine g_getC (pc := 365) (e := 0) (in_12 hX (by omega)) fr_X12_116 dX12_changed_365 rfl ?_
    refine g_iload (pc := 368) 5 rfl dX12_changed_368 ?_
    obtain ⟨j4, hj4, hf⟩ := am_bd hf
    have gj4 := am_ix_lt hj4
    refine g_aJ (pc := 370) (in_1384 hX (by omega)) ak_1384 hj4 dX12_changed_370 ?_
    refine g_lsub (pc := 371) dX12_changed_371 ?_
    refine g_mabsL (pc := 372) (Nat.le_of_ble_eq_true rfl) (Nat.le_of_ble_eq_true rfl) sp_X12_131 dX12_changed_372 ?_
    refine g_iload (pc := 375) 3 rfl dX12_changed_375 ?_
    refine g_i2l (pc := 377) dX12_changed_377 ?_
    refine g_lcm (pc := 378) dX12_changed_378 ?_
    refine bl_le (pc := 379) 400 dX12_changed_379 rfl (fun c5 => ?_) (fun c5 => ?_)
    · replace hf := am_ifT c5 hf
      refine g_iload (pc := 382) 4 rfl dX12_changed_382 ?_
      refine g_iconst (pc := 384) (v := 1) dX12_changed_384 (by decide) ?_
      refine g_iload (pc := 385) 5 rfl dX12_changed_385 ?_
      refine g_iconst (pc := 387) (v := 3) dX12_changed_387 (by decide) ?_
      refine bi_ge (pc := 388) 395 dX12_changed_388 rfl (fun c6 => ?_) (fun c6 => ?_)
      · replace hf := am_ifT c6 hf
        refine g_iload_n (pc := 391) 1 rfl dX12_changed_391 rfl ?_
        refine g_goto (pc := 392) 396 dX12_changed_392 rfl ?_
        refine g_ishl (pc := 396) dX12_changed_396 ?_
        refine g_ior (pc := 397) dX12_changed_397 ?_
        refine g_istore (pc := 398) [(10, .int (v10 ||| (1 <<< (v2 &&& 31)))), (0, .ref (am_ad X 12 0)), (2, .int v2), (3, .int v3), (9, .int v9), (11, .int v11)] dX12_changed_398 (Nat.le_of_ble_eq_true rfl) rfl ?_
        refine g_iinc (pc := 400) (v := (v11 + 1)) 5 [(11, .int (v11 + 1)), (10, .int (v10 ||| (1 <<< (v2 &&& 31)))), (0, .ref (am_ad X 12 0)), (2, .int v2), (3, .int v3), (9, .int v9)] dX12_changed_400 rfl rfl (Nat.le_of_ble_eq_true rfl) rfl ?_
        refine g_goto (pc := 403) 342 dX12_changed_403 rfl ?_
        have hz := hk0 _ (Option.some.inj hf).symm
        exact am_sub [2, 3, 4, 5, 1, 0] rfl hz
      replace hf := am_ifF c6 hf
      refine g_iload_n (pc := 395) 2 rfl dX12_changed_395 rfl ?_
      refine g_ishl (pc := 396) dX12_changed_396 ?_
      refine g_ior (pc := 397) dX12_changed_397 ?_
      refine g_istore (pc := 398) [(10, .int (v10 ||| (1 <<< (v3 &&& 31)))), (0, .ref (am_ad X 12 0)), (2, .int v2), (3, .int v3), (9, .int v9), (11, .int v11)] dX12_changed_398 (Nat.le_of_ble_eq_true rfl) rfl ?_
      refine g_iinc (pc := 400) (v := (v11 + 1)) 5 [(11, .int (v11 + 1)), (10, .int (v10 ||| (1 <<< (v3 &&& 31)))), (0, .ref (am_ad X 12 0)), (2, .int v2), (3, .int v3), (9, .int v9)] dX12_changed_400 rfl rfl (Nat.le_of_ble_eq_true rfl) rfl ?_
      refine g_goto (pc := 403) 342 dX12_changed_403 rfl ?_
      have hz := hk0 _ (Option.some.inj hf).symm
      exact am_sub [2, 3, 4, 5, 1, 0] rfl hz
    replace hf := am_ifF c5 hf
    refine g_iinc (pc := 400) (v := (v11 + 1)) 5 [(11, .int (v11 + 1)), (0, .ref (am_ad X 12 0)), (2, .int v2), (3, .int v3), (9, .int v9), (10, .int v10)] dX12_changed_400 rfl rfl (Nat.le_of_ble_eq_true rfl) rfl ?_
    refine g_goto (pc := 403) 342 dX12_changed_403 rfl ?_
    have hz := hk0 _ (Option.some.inj hf).symm
    exact am_sub [1, 2, 3, 4, 5, 0] rfl hz
  replace hf := am_ifF c1 hf
  have hz := hk1 _ (Option.some.inj hf).symm
  exact am_sub [4] rfl hz
set_option maxRecDepth 100000 in
set_option maxHeartbeats 4000000 in
theorem l_X12_changed_342 {X : am_X} (hX : am_ks X = am_ksM) {Q : Option Value → am_H → Prop} (v2 : Int32) (v3 : Int32) (v9 : Int32) (σ : am_H) (s : Int32 × Int32) {o : Int32} (hf : am_loop (fun s => f_X12_changed_342 v2 v3 v9 s.1 s.2 σ) s = some o) (hk1 : ∀ t, o = t → am_G X gm_X12_changed Q 406 [(10, .int t)] [] σ) : am_G X gm_X12_changed Q 342 [(0, .ref (am_ad X 12 0)), (2, .int v2), (3, .int v3), (9, .int v9), (10, .int s.1), (11, .int s.2)] [] σ := by
  refine am_loop_ind (P := fun s => am_G X gm_X12_changed Q 342 [(0, .ref (am_ad X 12 0)), (2, .int v2), (3, .int v3), (9, .int v9), (10, .int s.1), (11, .int s.2)] [] σ) (K := fun r => r = o) ?_ hf rfl
  intro s o1 hb hi hr
  exact q_X12_changed_342 hX v2 v3 v9 s.1 s.2  σ hb hi (fun t e => hk1 t (hr _ e).symm)
noncomputable def f_X12_changed_234 (σ : am_H) : Option (Int32 × am_H) :=
  (f_X12_refuse 5 σ).bind fun p1 =>
  some (p1.1, p1.2)
set_option maxRecDepth 100000 in
set_option maxHeartbeats 4000000 in
theorem q_X12_changed_234 {X : am_X} (hX : am_ks X = am_ksM) {Q : Option Value → am_H → Prop} (σ : am_H) {o : Int32 × am_H} (hf : f_X12_changed_234 σ = some o) (hk : Q (some (.int o.1)) o.2) : am_G X gm_X12_changed Q 234 [(0, .ref (am_ad X 12 0))] [] σ := by
  unfold f_X12_changed_234 at hf
  refine g_aload_n (pc := 234) 0 rfl dX12_changed_234 rfl ?_
  refine g_iconst (pc := 235) (v := 5) dX12_changed_235 (by decide) ?_
  obtain ⟨p1, hp1, hf⟩ := am_bd hf
  refine g_cV (pc := 236) (As := [.int 5]) (st := []) (st1 := [.int p1.1]) (in_12 hX (by omega)) kk_12 mV_X12_refuse ln_X12_283 rfl (Nat.le_of_ble_eq_true rfl) (Nat.le_of_ble_eq_true rfl) (k_X12_refuse hX 5 σ hp1) dX12_changed_236 rfl rfl ?_
  have ho := Option.some.inj hf
  subst ho
  exact g_ireturn (pc := 239) (st := []) rfl dX12_changed_239 hk
noncomputable def f_X12_changed_148 (σ : am_H) : Option (Int32 × am_H) :=
  (f_X12_refuse 5 σ).bind fun p1 =>
  some (p1.1, p1.2)
set_option maxRecDepth 100000 in
set_option maxHeartbeats 4000000 in
theorem q_X12_changed_148 {X : am_X} (hX : am_ks X = am_ksM) {Q : Option Value → am_H → Prop} (σ : am_H) {o : Int32 × am_H} (hf : f_X12_changed_148 σ = some o) (hk : Q (some (.int o.1)) o.2) : am_G X gm_X12_changed Q 148 [(0, .ref (am_ad X 12 0))] [] σ := by
  unfold f_X12_changed_148 at hf
  refine g_aload_n (pc := 148) 0 rfl dX12_changed_148 rfl ?_
  refine g_iconst (pc := 149) (v := 5) dX12_changed_149 (by decide) ?_
  obtain ⟨p1, hp1, hf⟩ := am_bd hf
  refine g_cV (pc := 150) (As := [.int 5]) (st := []) (st1 := [.int p1.1]) (in_12 hX (by omega)) kk_12 mV_X12_refuse ln_X12_283 rfl (Nat.le_of_ble_eq_true rfl) (Nat.le_of_ble_eq_true rfl) (k_X12_refuse hX 5 σ hp1) dX12_changed_150 rfl rfl ?_
  have ho := Option.some.inj hf
  subst ho
  exact g_ireturn (pc := 153) (st := []) rfl dX12_changed_153 hk
noncomputable def f_X12_changed_70 (σ : am_H) : Option (Int32 × am_H) :=
  (f_X12_refuse 2 σ).bind fun p1 =>
  some (p1.1, p1.2)
set_option maxRecDepth 100000 in
set_option maxHeartbeats 4000000 in
theorem q_X12_changed_70 {X : am_X} (hX : am_ks X = am_ksM) {Q : Option Value → am_H → Prop} (σ : am_H) {o : Int32 × am_H} (hf : f_X12_changed_70 σ = some o) (hk : Q (some (.int o.1)) o.2) : am_G X gm_X12_changed Q 70 [(0, .ref (am_ad X 12 0))] [] σ := by
  unfold f_X12_changed_70 at hf
  refine g_aload_n (pc := 70) 0 rfl dX12_changed_70 rfl ?_
  refine g_iconst (pc := 71) (v := 2) dX12_changed_71 (by decide) ?_
  obtain ⟨p1, hp1, hf⟩ := am_bd hf
  refine g_cV (pc := 72) (As := [.int 2]) (st := []) (st1 := [.int p1.1]) (in_12 hX (by omega)) kk_12 mV_X12_refuse ln_X12_283 rfl (Nat.le_of_ble_eq_true rfl) (Nat.le_of_ble_eq_true rfl) (k_X12_refuse hX 2 σ hp1) dX12_changed_72 rfl rfl ?_
  have ho := Option.some.inj hf
  subst ho
  exact g_ireturn (pc := 75) (st := []) rfl dX12_changed_75 hk
noncomputable def f_X12_changed_46 (σ : am_H) : Option (Int32 × am_H) :=
  (f_X12_refuse 1 σ).bind fun p1 =>
  some (p1.1, p1.2)
set_option maxRecDepth 100000 in
set_option maxHeartbeats 4000000 in
theorem q_X12_changed_46 {X : am_X} (hX : am_ks X = am_ksM) {Q : Option Value → am_H → Prop} (σ : am_H) {o : Int32 × am_H} (hf : f_X12_changed_46 σ = some o) (hk : Q (some (.int o.1)) o.2) : am_G X gm_X12_changed Q 46 [(0, .ref (am_ad X 12 0))] [] σ := by
  unfold f_X12_changed_46 at hf
  refine g_aload_n (pc := 46) 0 rfl dX12_changed_46 rfl ?_
  refine g_iconst (pc := 47) (v := 1) dX12_changed_47 (by decide) ?_
  obtain ⟨p1, hp1, hf⟩ := am_bd hf
  refine g_cV (pc := 48) (As := [.int 1]) (st := []) (st1 := [.int p1.1]) (in_12 hX (by omega)) kk_12 mV_X12_refuse ln_X12_283 rfl (Nat.le_of_ble_eq_true rfl) (Nat.le_of_ble_eq_true rfl) (k_X12_refuse hX 1 σ hp1) dX12_changed_48 rfl rfl ?_
  have ho := Option.some.inj hf
  subst ho
  exact g_ireturn (pc := 51) (st := []) rfl dX12_changed_51 hk
noncomputable def f_X12_changed (v1 : Int32) (v2 : Int32) (v3 : Int32) (v4 : Int32) (v5 : Int32) (v6 : Int32) (v7 : Int32) (v8 : Int32) (v9 : Int32) (σ : am_H) : Option (Int32 × am_H) :=
  (some (am_wI σ 12 0 1 0)).bind fun s1 =>
  (some (am_wI s1 12 0 0 0)).bind fun s2 =>
  (f_X12_isTray v4 s2).bind fun p3 =>
  if p3 = true then
   ((f_X12_isTray v5 s2).bind fun p5 =>
   if p5 = true then
    ((f_X12_isTray v6 s2).bind fun p7 =>
    if p7 = true then
     ((f_X12_isTray v7 s2).bind fun p9 =>
     if p9 = true then
      ((f_X12_isWaveOf v1 v2 s2).bind fun p11 =>
      if p11 = true then
       ((f_X12_isWaveOf v1 v3 s2).bind fun p13 =>
       if p13 = true then
        ((am_ix 5 v4).bind fun j15 =>
        if (s2.1 1305 0 j15) < 0 then
         (f_X12_changed_116 s2)
        else
        (am_ix 5 v5).bind fun j17 =>
        if (s2.1 1305 0 j17) < 0 then
         (f_X12_changed_116 s2)
        else
        (am_ix 5 v6).bind fun j19 =>
        if (s2.1 1305 0 j19) < 0 then
         (f_X12_changed_116 s2)
        else
        (am_ix 5 v7).bind fun j21 =>
        if (s2.1 1305 0 j21) < 0 then
         (f_X12_changed_116 s2)
        else
        (f_X12_isIn (Int32.toInt64 v8) 1 24 s2).bind fun p23 =>
        if p23 = true then
         ((f_X12_isIn (Int32.toInt64 v9) 0 999 s2).bind fun p25 =>
         if p25 = true then
          ((am_ix 5 v4).bind fun j27 =>
          if (s2.1 1305 0 j27) < v8 then
           (f_X12_changed_202 s2)
          else
          (am_ix 5 v5).bind fun j29 =>
          if (s2.1 1305 0 j29) < v8 then
           (f_X12_changed_202 s2)
          else
          (am_ix 5 v6).bind fun j31 =>
          if (s2.1 1305 0 j31) < v8 then
           (f_X12_changed_202 s2)
          else
          (am_ix 5 v7).bind fun j33 =>
          if (s2.1 1305 0 j33) < v8 then
           (f_X12_changed_202 s2)
          else
          (f_X12_areRead v4 v5 v8 s2).bind fun p35 =>
          if p35 = true then
           ((f_X12_areRead v6 v7 v8 s2).bind fun p37 =>
           if p37 = true then
            ((f_X12_square v1 v2 v3 v4 v5 v8 s2).bind fun p39 =>
            if (p39.2.1 12 0 82) = 0 then
             ((f_X12_refuse 9 p39).bind fun p41 =>
             some (p41.1, p41.2))
            else
            (am_loop (fun s => f_X12_changed_272 v1 v2 v3 v6 v7 v8 v9 s.1 s.2) (0, p39)).bind fun w42 =>
            (f_X12_square v1 v2 v3 v6 v7 v8 w42).bind fun p43 =>
            if (p43.2.1 12 0 82) = 0 then
             ((f_X12_refuse 9 p43).bind fun p45 =>
             some (p45.1, p45.2))
            else
            (am_loop (fun s => f_X12_changed_342 v2 v3 v9 s.1 s.2 p43) (0, 1)).bind fun w46 =>
            some (w46, p43))
           else
           f_X12_changed_234 s2)
          else
          f_X12_changed_234 s2)
         else
         f_X12_changed_148 s2)
        else
        f_X12_changed_148 s2)
       else
       f_X12_changed_70 s2)
      else
      f_X12_changed_70 s2)
     else
     f_X12_changed_46 s2)
    else
    f_X12_changed_46 s2)
   else
   f_X12_changed_46 s2)
  else
  f_X12_changed_46 s2
set_option maxRecDepth 100000 in
set_option maxHeartbeats 4000000 in
theorem q_X12_changed {X : am_X} (hX : am_ks X = am_ksM) {Q : Option Value → am_H → Prop} (v1 : Int32) (v2 : Int32) (v3 : Int32) (v4 : Int32) (v5 : Int32) (v6 : Int32) (v7 : Int32) (v8 : Int32) (v9 : Int32) (σ : am_H) {o : Int32 × am_H} (hf : f_X12_changed v1 v2 v3 v4 v5 v6 v7 v8 v9 σ = some o) (hk : Q (some (.int o.1)) o.2) : am_G X gm_X12_changed Q 0 [(0, .ref (am_ad X 12 0)), (1, .int v1), (2, .int v2), (3, .int v3), (4, .int v4), (5, .int v5), (6, .int v6), (7, .int v7), (8, .int v8), (9, .int v9)] [] σ := by
  unfold f_X12_changed at hf
  refine g_aload_n (pc := 0) 0 rfl dX12_changed_0 rfl ?_
  refine g_iconst (pc := 1) (v := 0) dX12_changed_1 (by decide) ?_
  obtain ⟨s1, hs1, hf⟩ := am_bd hf
  refine g_setI (pc := 2) (in_12 hX (by omega)) fr_X12_122 dX12_changed_2 (Option.some.inj hs1) ?_
  refine g_aload_n (pc := 5) 0 rfl dX12_changed_5 rfl ?_
  refine g_iconst (pc := 6) (v := 0) dX12_changed_6 (by decide) ?_
  obtain ⟨s2, hs2, hf⟩ := am_bd hf
  refine g_setI (pc := 7) (in_12 hX (by omega)) fr_X12_125 dX12_changed_7 (Option.some.inj hs2) ?_
  refine g_aload_n (pc := 10) 0 rfl dX12_changed_10 rfl ?_
  refine g_iload (pc := 11) 4 rfl dX12_changed_11 ?_
  obtain ⟨p3, hp3, hf⟩ := am_bd hf
  refine g_cV (pc := 13) (As := [.int v4]) (st := []) (st1 := [.int (am_b p3)]) (in_12 hX (by omega)) kk_12 mV_X12_isTray ln_X12_421 rfl (Nat.le_of_ble_eq_true rfl) (Nat.le_of_ble_eq_true rfl) (k_X12_isTray hX v4 s2 hp3) dX12_changed_13 rfl rfl ?_
  refine bt_eq (pc := 16) 46 dX12_changed_16 rfl (fun c4 => ?_) (fun c4 => ?_)
  · replace hf := am_ifT c4 hf
    refine g_aload_n (pc := 19) 0 rfl dX12_changed_19 rfl ?_
    refine g_iload (pc := 20) 5 rfl dX12_changed_20 ?_
    obtain ⟨p5, hp5, hf⟩ := am_bd hf
    refine g_cV (pc := 22) (As := [.int v5]) (st := []) (st1 := [.int (am_b p5)]) (in_12 hX (by omega)) kk_12 mV_X12_isTray ln_X12_421 rfl (Nat.le_of_ble_eq_true rfl) (Nat.le_of_ble_eq_true rfl) (k_X12_isTray hX v5 s2 hp5) dX12_changed_22 rfl rfl ?_
    refine bt_eq (pc := 25) 46 dX12_changed_25 rfl (fun c6 => ?_) (fun c6 => ?_)
    · replace hf := am_ifT c6 hf
      refine g_aload_n (pc := 28) 0 rfl dX12_changed_28 rfl ?_
      refine g_iload (pc := 29) 6 rfl dX12_changed_29 ?_
      obtain ⟨p7, hp7, hf⟩ := am_bd hf
      refine g_cV (pc := 31) (As := [.int v6]) (st := []) (st1 := [.int (am_b p7)]) (in_12 hX (by omega)) kk_12 mV_X12_isTray ln_X12_421 rfl (Nat.le_of_ble_eq_true rfl) (Nat.le_of_ble_eq_true rfl) (k_X12_isTray hX v6 s2 hp7) dX12_changed_31 rfl rfl ?_
      refine bt_eq (pc := 34) 46 dX12_changed_34 rfl (fun c8 => ?_) (fun c8 => ?_)
      · replace hf := am_ifT c8 hf
        refine g_aload_n (pc := 37) 0 rfl dX12_changed_37 rfl ?_
        refine g_iload (pc := 38) 7 rfl dX12_changed_38 ?_
        obtain ⟨p9, hp9, hf⟩ := am_bd hf
        refine g_cV (pc := 40) (As := [.int v7]) (st := []) (st1 := [.int (am_b p9)]) (in_12 hX (by omega)) kk_12 mV_X12_isTray ln_X12_421 rfl (Nat.le_of_ble_eq_true rfl) (Nat.le_of_ble_eq_true rfl) (k_X12_isTray hX v7 s2 hp9) dX12_changed_40 rfl rfl ?_
        refine bt_ne (pc := 43) 52 dX12_changed_43 rfl (fun c10 => ?_) (fun c10 => ?_)
        · replace hf := am_ifT c10 hf
          refine g_aload_n (pc := 52) 0 rfl dX12_changed_52 rfl ?_
          refine g_iload_n (pc := 53) 1 rfl dX12_changed_53 rfl ?_
          refine g_iload_n (pc := 54) 2 rfl dX12_changed_54 rfl ?_
          obtain ⟨p11, hp11, hf⟩ := am_bd hf
          refine g_cV (pc := 55) (As := [.int v1, .int v2]) (st := []) (st1 := [.int (am_b p11)]) (in_12 hX (by omega)) kk_12 mV_X12_isWaveOf ln_X12_300 rfl (Nat.le_of_ble_eq_true rfl) (Nat.le_of_ble_eq_true rfl) (k_X12_isWaveOf hX v1 v2 s2 hp11) dX12_changed_55 rfl rfl ?_
          refine bt_eq (pc := 58) 70 dX12_changed_58 rfl (fun c12 => ?_) (fun c12 => ?_)
          · replace hf := am_ifT c12 hf
            refine g_aload_n (pc := 61) 0 rfl dX12_changed_61 rfl ?_
            refine g_iload_n (pc := 62) 1 rfl dX12_changed_62 rfl ?_
            refine g_iload_n (pc := 63) 3 rfl dX12_changed_63 rfl ?_
            obtain ⟨p13, hp13, hf⟩ := am_bd hf
            refine g_cV (pc := 64) (As := [.int v1, .int v3]) (st := []) (st1 := [.int (am_b p13)]) (in_12 hX (by omega)) kk_12 mV_X12_isWaveOf ln_X12_300 rfl (Nat.le_of_ble_eq_true rfl) (Nat.le_of_ble_eq_true rfl) (k_X12_isWaveOf hX v1 v3 s2 hp13) dX12_changed_64 rfl rfl ?_
            refine bt_ne (pc := 67) 76 dX12_changed_67 rfl (fun c14 => ?_) (fun c14 => ?_)
            · replace hf := am_ifT c14 hf
              refine g_aload_n (pc := 76) 0 rfl dX12_changed_76 rfl ?_
              refine g_getC (pc := 77) (e := 0) (in_12 hX (by omega)) fr_X12_17 dX12_changed_77 rfl ?_
              refine g_iload (pc := 80) 4 rfl dX12_changed_80 ?_
              obtain ⟨j15, hj15, hf⟩ := am_bd hf
              have gj15 := am_ix_lt hj15
              refine g_aI (pc := 82) (in_1305 hX (by omega)) ak_1305 hj15 dX12_changed_82 ?_
              refine bz_lt (pc := 83) 116 dX12_changed_83 rfl (fun c16 => ?_) (fun c16 => ?_)
              · replace hf := am_ifT c16 hf
                exact am_sub [0] rfl (q_X12_changed_116 hX s2 hf hk)
              replace hf := am_ifF c16 hf
              refine g_aload_n (pc := 86) 0 rfl dX12_changed_86 rfl ?_
              refine g_getC (pc := 87) (e := 0) (in_12 hX (by omega)) fr_X12_17 dX12_changed_87 rfl ?_
              refine g_iload (pc := 90) 5 rfl dX12_changed_90 ?_
              obtain ⟨j17, hj17, hf⟩ := am_bd hf
              have gj17 := am_ix_lt hj17
              refine g_aI (pc := 92) (in_1305 hX (by omega)) ak_1305 hj17 dX12_changed_92 ?_
              refine bz_lt (pc := 93) 116 dX12_changed_93 rfl (fun c18 => ?_) (fun c18 => ?_)
              · replace hf := am_ifT c18 hf
                exact am_sub [0] rfl (q_X12_changed_116 hX s2 hf hk)
              replace hf := am_ifF c18 hf
              refine g_aload_n (pc := 96) 0 rfl dX12_changed_96 rfl ?_
              refine g_getC (pc := 97) (e := 0) (in_12 hX (by omega)) fr_X12_17 dX12_changed_97 rfl ?_
              refine g_iload (pc := 100) 6 rfl dX12_changed_100 ?_
              obtain ⟨j19, hj19, hf⟩ := am_bd hf
              have gj19 := am_ix_lt hj19
              refine g_aI (pc := 102) (in_1305 hX (by omega)) ak_1305 hj19 dX12_changed_102 ?_
              refine bz_lt (pc := 103) 116 dX12_changed_103 rfl (fun c20 => ?_) (fun c20 => ?_)
              · replace hf := am_ifT c20 hf
                exact am_sub [0] rfl (q_X12_changed_116 hX s2 hf hk)
              replace hf := am_ifF c20 hf
              refine g_aload_n (pc := 106) 0 rfl dX12_changed_106 rfl ?_
              refine g_getC (pc := 107) (e := 0) (in_12 hX (by omega)) fr_X12_17 dX12_changed_107 rfl ?_
              refine g_iload (pc := 110) 7 rfl dX12_changed_110 ?_
              obtain ⟨j21, hj21, hf⟩ := am_bd hf
              have gj21 := am_ix_lt hj21
              refine g_aI (pc := 112) (in_1305 hX (by omega)) ak_1305 hj21 dX12_changed_112 ?_
              refine bz_ge (pc := 113) 122 dX12_changed_113 rfl (fun c22 => ?_) (fun c22 => ?_)
              · replace hf := am_ifT c22 hf
                exact am_sub [0] rfl (q_X12_changed_116 hX s2 hf hk)
              replace hf := am_ifF c22 hf
              refine g_iload (pc := 122) 8 rfl dX12_changed_122 ?_
              refine g_i2l (pc := 124) dX12_changed_124 ?_
              refine g_lconst (pc := 125) (v := 1) dX12_changed_125 (by decide) ?_
              refine g_ldc2 (pc := 126) (v := 24) (tb_9 (List.mem_of_getElem? (i := 51) (by decide +kernel))) dX12_changed_126 ?_
              obtain ⟨p23, hp23, hf⟩ := am_bd hf
              refine g_cS (pc := 129) (As := [.long (Int32.toInt64 v8), .long 1, .long 24]) (st := []) (st1 := [.int (am_b p23)]) mS_X12_isIn ln_X12_239 rfl (Nat.le_of_ble_eq_true rfl) (Nat.le_of_ble_eq_true rfl) (k_X12_isIn hX (Int32.toInt64 v8) 1 24 s2 hp23) dX12_changed_129 rfl rfl ?_
              refine bt_eq (pc := 132) 148 dX12_changed_132 rfl (fun c24 => ?_) (fun c24 => ?_)
              · replace hf := am_ifT c24 hf
                refine g_iload (pc := 135) 9 rfl dX12_changed_135 ?_
                refine g_i2l (pc := 137) dX12_changed_137 ?_
                refine g_lconst (pc := 138) (v := 0) dX12_changed_138 (by decide) ?_
                refine g_ldc2 (pc := 139) (v := 999) (tb_9 (List.mem_of_getElem? (i := 178) (by decide +kernel))) dX12_changed_139 ?_
                obtain ⟨p25, hp25, hf⟩ := am_bd hf
                refine g_cS (pc := 142) (As := [.long (Int32.toInt64 v9), .long 0, .long 999]) (st := []) (st1 := [.int (am_b p25)]) mS_X12_isIn ln_X12_239 rfl (Nat.le_of_ble_eq_true rfl) (Nat.le_of_ble_eq_true rfl) (k_X12_isIn hX (Int32.toInt64 v9) 0 999 s2 hp25) dX12_changed_142 rfl rfl ?_
                refine bt_ne (pc := 145) 154 dX12_changed_145 rfl (fun c26 => ?_) (fun c26 => ?_)
                · replace hf := am_ifT c26 hf
                  refine g_aload_n (pc := 154) 0 rfl dX12_changed_154 rfl ?_
                  refine g_getC (pc := 155) (e := 0) (in_12 hX (by omega)) fr_X12_17 dX12_changed_155 rfl ?_
                  refine g_iload (pc := 158) 4 rfl dX12_changed_158 ?_
                  obtain ⟨j27, hj27, hf⟩ := am_bd hf
                  have gj27 := am_ix_lt hj27
                  refine g_aI (pc := 160) (in_1305 hX (by omega)) ak_1305 hj27 dX12_changed_160 ?_
                  refine g_iload (pc := 161) 8 rfl dX12_changed_161 ?_
                  refine bi_lt (pc := 163) 202 dX12_changed_163 rfl (fun c28 => ?_) (fun c28 => ?_)
                  · replace hf := am_ifT c28 hf
                    exact am_sub [0] rfl (q_X12_changed_202 hX s2 hf hk)
                  replace hf := am_ifF c28 hf
                  refine g_aload_n (pc := 166) 0 rfl dX12_changed_166 rfl ?_
                  refine g_getC (pc := 167) (e := 0) (in_12 hX (by omega)) fr_X12_17 dX12_changed_167 rfl ?_
                  refine g_iload (pc := 170) 5 rfl dX12_changed_170 ?_
                  obtain ⟨j29, hj29, hf⟩ := am_bd hf
                  have gj29 := am_ix_lt hj29
                  refine g_aI (pc := 172) (in_1305 hX (by omega)) ak_1305 hj29 dX12_changed_172 ?_
                  refine g_iload (pc := 173) 8 rfl dX12_changed_173 ?_
                  refine bi_lt (pc := 175) 202 dX12_changed_175 rfl (fun c30 => ?_) (fun c30 => ?_)
                  · replace hf := am_ifT c30 hf
                    exact am_sub [0] rfl (q_X12_changed_202 hX s2 hf hk)
                  replace hf := am_ifF c30 hf
                  refine g_aload_n (pc := 178) 0 rfl dX12_changed_178 rfl ?_
                  refine g_getC (pc := 179) (e := 0) (in_12 hX (by omega)) fr_X12_17 dX12_changed_179 rfl ?_
                  refine g_iload (pc := 182) 6 rfl dX12_changed_182 ?_
                  obtain ⟨j31, hj31, hf⟩ := am_bd hf
                  have gj31 := am_ix_lt hj31
                  refine g_aI (pc := 184) (in_1305 hX (by omega)) ak_1305 hj31 dX12_changed_184 ?_
                  refine g_iload (pc := 185) 8 rfl dX12_changed_185 ?_
                  refine bi_lt (pc := 187) 202 dX12_changed_187 rfl (fun c32 => ?_) (fun c32 => ?_)
                  · replace hf := am_ifT c32 hf
                    exact am_sub [0] rfl (q_X12_changed_202 hX s2 hf hk)
                  replace hf := am_ifF c32 hf
                  refine g_aload_n (pc := 190) 0 rfl dX12_changed_190 rfl ?_
                  refine g_getC (pc := 191) (e := 0) (in_12 hX (by omega)) fr_X12_17 dX12_changed_191 rfl ?_
                  refine g_iload (pc := 194) 7 rfl dX12_changed_194 ?_
                  obtain ⟨j33, hj33, hf⟩ := am_bd hf
                  have gj33 := am_ix_lt hj33
                  refine g_aI (pc := 196) (in_1305 hX (by omega)) ak_1305 hj33 dX12_changed_196 ?_
                  refine g_iload (pc := 197) 8 rfl dX12_changed_197 ?_
                  refine bi_ge (pc := 199) 208 dX12_changed_199 rfl (fun c34 => ?_) (fun c34 => ?_)
                  · replace hf := am_ifT c34 hf
                    exact am_sub [0] rfl (q_X12_changed_202 hX s2 hf hk)
                  replace hf := am_ifF c34 hf
                  refine g_aload_n (pc := 208) 0 rfl dX12_changed_208 rfl ?_
                  refine g_iload (pc := 209) 4 rfl dX12_changed_209 ?_
                  refine g_iload (pc := 211) 5 rfl dX12_changed_211 ?_
                  refine g_iload (pc := 213) 8 rfl dX12_changed_213 ?_
                  obtain ⟨p35, hp35, hf⟩ := am_bd hf
                  refine g_cV (pc := 215) (As := [.int v4, .int v5, .int v8]) (st := []) (st1 := [.int (am_b p35)]) (in_12 hX (by omega)) kk_12 mV_X12_areRead ln_X12_424 rfl (Nat.le_of_ble_eq_true rfl) (Nat.le_of_ble_eq_true rfl) (k_X12_areRead hX v4 v5 v8 s2 hp35) dX12_changed_215 rfl rfl ?_
                  refine bt_eq (pc := 218) 234 dX12_changed_218 rfl (fun c36 => ?_) (fun c36 => ?_)
                  · replace hf := am_ifT c36 hf
                    refine g_aload_n (pc := 221) 0 rfl dX12_changed_221 rfl ?_
                    refine g_iload (pc := 222) 6 rfl dX12_changed_222 ?_
                    refine g_iload (pc := 224) 7 rfl dX12_changed_224 ?_
                    refine g_iload (pc := 226) 8 rfl dX12_changed_226 ?_
                    obtain ⟨p37, hp37, hf⟩ := am_bd hf
                    refine g_cV (pc := 228) (As := [.int v6, .int v7, .int v8]) (st := []) (st1 := [.int (am_b p37)]) (in_12 hX (by omega)) kk_12 mV_X12_areRead ln_X12_424 rfl (Nat.le_of_ble_eq_true rfl) (Nat.le_of_ble_eq_true rfl) (k_X12_areRead hX v6 v7 v8 s2 hp37) dX12_changed_228 rfl rfl ?_
                    refine bt_ne (pc := 231) 240 dX12_changed_231 rfl (fun c38 => ?_) (fun c38 => ?_)
                    · replace hf := am_ifT c38 hf
                      refine g_aload_n (pc := 240) 0 rfl dX12_changed_240 rfl ?_
                      refine g_iload_n (pc := 241) 1 rfl dX12_changed_241 rfl ?_
                      refine g_iload_n (pc := 242) 2 rfl dX12_changed_242 rfl ?_
                      refine g_iload_n (pc := 243) 3 rfl dX12_changed_243 rfl ?_
                      refine g_iload (pc := 244) 4 rfl dX12_changed_244 ?_
                      refine g_iload (pc := 246) 5 rfl dX12_changed_246 ?_
                      refine g_iload (pc := 248) 8 rfl dX12_changed_248 ?_
                      obtain ⟨p39, hp39, hf⟩ := am_bd hf
                      refine g_cV (pc := 250) (As := [.int v1, .int v2, .int v3, .int v4, .int v5, .int v8]) (st := []) (st1 := []) (in_12 hX (by omega)) kk_12 mV_X12_square ln_X12_432 rfl (Nat.le_of_ble_eq_true rfl) (Nat.le_of_ble_eq_true rfl) (k_X12_square hX v1 v2 v3 v4 v5 v8 s2 hp39) dX12_changed_250 rfl rfl ?_
                      refine g_aload_n (pc := 253) 0 rfl dX12_changed_253 rfl ?_
                      refine g_getJ (pc := 254) (in_12 hX (by omega)) fr_X12_418 dX12_changed_254 ?_
                      refine g_lconst (pc := 257) (v := 0) dX12_changed_257 (by decide) ?_
                      refine g_lcm (pc := 258) dX12_changed_258 ?_
                      refine bl_ne (pc := 259) 269 dX12_changed_259 rfl (fun c40 => ?_) (fun c40 => ?_)
                      · replace hf := am_ifT c40 hf
                        refine g_aload_n (pc := 262) 0 rfl dX12_changed_262 rfl ?_
                        refine g_bipush (pc := 263) (v := 9) dX12_changed_263 (by decide) ?_
                        obtain ⟨p41, hp41, hf⟩ := am_bd hf
                        refine g_cV (pc := 265) (As := [.int 9]) (st := []) (st1 := [.int p41.1]) (in_12 hX (by omega)) kk_12 mV_X12_refuse ln_X12_283 rfl (Nat.le_of_ble_eq_true rfl) (Nat.le_of_ble_eq_true rfl) (k_X12_refuse hX 9 p39 hp41) dX12_changed_265 rfl rfl ?_
                        have ho := Option.some.inj hf
                        subst ho
                        exact g_ireturn (pc := 268) (st := []) rfl dX12_changed_268 hk
                      replace hf := am_ifF c40 hf
                      refine g_iconst (pc := 269) (v := 0) dX12_changed_269 (by decide) ?_
                      refine g_istore (pc := 270) [(10, .int 0), (0, .ref (am_ad X 12 0)), (1, .int v1), (2, .int v2), (3, .int v3), (4, .int v4), (5, .int v5), (6, .int v6), (7, .int v7), (8, .int v8), (9, .int v9)] dX12_changed_270 (Nat.le_of_ble_eq_true rfl) rfl ?_
                      obtain ⟨w42, hw42, hf⟩ := am_bd hf
                      refine am_sub [1, 2, 3, 4, 7, 8, 9, 10, 0] rfl (l_X12_changed_272 hX v1 v2 v3 v6 v7 v8 v9  p39 (0, p39) hw42 ?_)
                      intro t e
                      subst e
                      refine g_aload_n (pc := 307) 0 rfl dX12_changed_307 rfl ?_
                      refine g_iload_n (pc := 308) 1 rfl dX12_changed_308 rfl ?_
                      refine g_iload_n (pc := 309) 2 rfl dX12_changed_309 rfl ?_
                      refine g_iload_n (pc := 310) 3 rfl dX12_changed_310 rfl ?_
                      refine g_iload (pc := 311) 4 rfl dX12_changed_311 ?_
                      refine g_iload (pc := 313) 5 rfl dX12_changed_313 ?_
                      refine g_iload (pc := 315) 6 rfl dX12_changed_315 ?_
                      obtain ⟨p43, hp43, hf⟩ := am_bd hf
                      refine g_cV (pc := 317) (As := [.int v1, .int v2, .int v3, .int v6, .int v7, .int v8]) (st := []) (st1 := []) (in_12 hX (by omega)) kk_12 mV_X12_square ln_X12_432 rfl (Nat.le_of_ble_eq_true rfl) (Nat.le_of_ble_eq_true rfl) (k_X12_square hX v1 v2 v3 v6 v7 v8 w42 hp43) dX12_changed_317 rfl rfl ?_
                      refine g_aload_n (pc := 320) 0 rfl dX12_changed_320 rfl ?_
                      refine g_getJ (pc := 321) (in_12 hX (by omega)) fr_X12_418 dX12_changed_321 ?_
                      refine g_lconst (pc := 324) (v := 0) dX12_changed_324 (by decide) ?_
                      refine g_lcm (pc := 325) dX12_changed_325 ?_
                      refine bl_ne (pc := 326) 336 dX12_changed_326 rfl (fun c44 => ?_) (fun c44 => ?_)
                      · replace hf := am_ifT c44 hf
                        refine g_aload_n (pc := 329) 0 rfl dX12_changed_329 rfl ?_
                        refine g_bipush (pc := 330) (v := 9) dX12_changed_330 (by decide) ?_
                        obtain ⟨p45, hp45, hf⟩ := am_bd hf
                        refine g_cV (pc := 332) (As := [.int 9]) (st := []) (st1 := [.int p45.1]) (in_12 hX (by omega)) kk_12 mV_X12_refuse ln_X12_283 rfl (Nat.le_of_ble_eq_true rfl) (Nat.le_of_ble_eq_true rfl) (k_X12_refuse hX 9 p43 hp45) dX12_changed_332 rfl rfl ?_
                        have ho := Option.some.inj hf
                        subst ho
                        exact g_ireturn (pc := 335) (st := []) rfl dX12_changed_335 hk
                      replace hf := am_ifF c44 hf
                      refine g_iconst (pc := 336) (v := 0) dX12_changed_336 (by decide) ?_
                      refine g_istore (pc := 337) [(10, .int 0), (0, .ref (am_ad X 12 0)), (1, .int v1), (2, .int v2), (3, .int v3), (6, .int v6), (7, .int v7), (8, .int v8), (9, .int v9)] dX12_changed_337 (Nat.le_of_ble_eq_true rfl) rfl ?_
                      refine g_iconst (pc := 339) (v := 1) dX12_changed_339 (by decide) ?_
                      refine g_istore (pc := 340) [(11, .int 1), (10, .int 0), (0, .ref (am_ad X 12 0)), (1, .int v1), (2, .int v2), (3, .int v3), (6, .int v6), (7, .int v7), (8, .int v8), (9, .int v9)] dX12_changed_340 (Nat.le_of_ble_eq_true rfl) rfl ?_
                      obtain ⟨w46, hw46, hf⟩ := am_bd hf
                      refine am_sub [2, 4, 5, 9, 1, 0] rfl (l_X12_changed_342 hX v2 v3 v9  p43 (0, 1) hw46 ?_)
                      intro t e
                      subst e
                      refine g_iload (pc := 406) 0 rfl dX12_changed_406 ?_
                      have ho := Option.some.inj hf
                      subst ho
                      exact g_ireturn (pc := 408) (st := []) rfl dX12_changed_408 hk
                    replace hf := am_ifF c38 hf
                    exact am_sub [0] rfl (q_X12_changed_234 hX s2 hf hk)
                  replace hf := am_ifF c36 hf
                  exact am_sub [0] rfl (q_X12_changed_234 hX s2 hf hk)
                replace hf := am_ifF c26 hf
                exact am_sub [0] rfl (q_X12_changed_148 hX s2 hf hk)
              replace hf := am_ifF c24 hf
              exact am_sub [0] rfl (q_X12_changed_148 hX s2 hf hk)
            replace hf := am_ifF c14 hf
            exact am_sub [0] rfl (q_X12_changed_70 hX s2 hf hk)
          replace hf := am_ifF c12 hf
          exact am_sub [0] rfl (q_X12_changed_70 hX s2 hf hk)
        replace hf := am_ifF c10 hf
        exact am_sub [0] rfl (q_X12_changed_46 hX s2 hf hk)
      replace hf := am_ifF c8 hf
      exact am_sub [0] rfl (q_X12_changed_46 hX s2 hf hk)
    replace hf := am_ifF c6 hf
    exact am_sub [0] rfl (q_X12_changed_46 hX s2 hf hk)
  replace hf := am_ifF c4 hf
  exact am_sub [0] rfl (q_X12_changed_46 hX s2 hf hk)
theorem k_X12_changed {X : am_X} (hX : am_ks X = am_ksM) (v1 : Int32) (v2 : Int32) (v3 : Int32) (v4 : Int32) (v5 : Int32) (v6 : Int32) (v7 : Int32) (v8 : Int32) (v9 : Int32) (σ : am_H) {o : Int32 × am_H} (hf : f_X12_changed v1 v2 v3 v4 v5 v6 v7 v8 v9 σ = some o) : am_C X gm_X12_changed [.ref (am_ad X 12 0), .int v1, .int v2, .int v3, .int v4, .int v5, .int v6, .int v7, .int v8, .int v9] σ (am_is (some (.int o.1)) o.2) :=
  am_ofG rfl (Nat.le_of_ble_eq_true rfl) rfl (q_X12_changed hX v1 v2 v3 v4 v5 v6 v7 v8 v9 σ hf ⟨rfl, rfl⟩)
theorem dX12_differs_0 : decode cX12_differs 0 = .ok (.lconst 0, 1) := by decide +kernel
theorem dX12_differs_1 : decode cX12_differs 1 = .ok (.lstore 8, 2) := by decide +kernel
theorem dX12_differs_3 : decode cX12_differs 3 = .ok (.iconst 0, 1) := by decide +kernel
theorem dX12_differs_4 : decode cX12_differs 4 = .ok (.istore 10, 2) := by decide +kernel
theorem dX12_differs_6 : decode cX12_differs 6 = .ok (.iload 10, 2) := by decide +kernel
theorem dX12_differs_8 : decode cX12_differs 8 = .ok (.iload 4, 2) := by decide +kernel
theorem dX12_differs_10 : decode cX12_differs 10 = .ok (.if_icmp .ge 96, 3) := by decide +kernel
theorem dX12_differs_13 : decode cX12_differs 13 = .ok (.aload_n 0, 1) := by decide +kernel
theorem dX12_differs_14 : decode cX12_differs 14 = .ok (.iload_n 3, 1) := by decide +kernel
theorem dX12_differs_15 : decode cX12_differs 15 = .ok (.iload 10, 2) := by decide +kernel
theorem dX12_differs_17 : decode cX12_differs 17 = .ok (.invokevirtual 394, 3) := by decide +kernel
theorem dX12_differs_20 : decode cX12_differs 20 = .ok (.ldc2_w 400, 3) := by decide +kernel
theorem dX12_differs_23 : decode cX12_differs 23 = .ok (.lcmp, 1) := by decide +kernel
theorem dX12_differs_24 : decode cX12_differs 24 = .ok (.ifCond .ne 6, 3) := by decide +kernel
theorem dX12_differs_27 : decode cX12_differs 27 = .ok (.goto 73, 3) := by decide +kernel
theorem dX12_differs_30 : decode cX12_differs 30 = .ok (.iconst 0, 1) := by decide +kernel
theorem dX12_differs_31 : decode cX12_differs 31 = .ok (.aload_n 0, 1) := by decide +kernel
theorem dX12_differs_32 : decode cX12_differs 32 = .ok (.iload_n 2, 1) := by decide +kernel
theorem dX12_differs_33 : decode cX12_differs 33 = .ok (.iload 10, 2) := by decide +kernel
theorem dX12_differs_35 : decode cX12_differs 35 = .ok (.invokevirtual 408, 3) := by decide +kernel
theorem dX12_differs_38 : decode cX12_differs 38 = .ok (.iload 10, 2) := by decide +kernel
theorem dX12_differs_40 : decode cX12_differs 40 = .ok (.iload 5, 2) := by decide +kernel
theorem dX12_differs_42 : decode cX12_differs 42 = .ok (.if_icmp .ge 7, 3) := by decide +kernel
theorem dX12_differs_45 : decode cX12_differs 45 = .ok (.iconst 0, 1) := by decide +kernel
theorem dX12_differs_46 : decode cX12_differs 46 = .ok (.goto 5, 3) := by decide +kernel
theorem dX12_differs_49 : decode cX12_differs 49 = .ok (.iload 6, 2) := by decide +kernel
theorem dX12_differs_51 : decode cX12_differs 51 = .ok (.iadd, 1) := by decide +kernel
theorem dX12_differs_52 : decode cX12_differs 52 = .ok (.invokestatic 438, 3) := by decide +kernel
theorem dX12_differs_55 : decode cX12_differs 55 = .ok (.istore 11, 2) := by decide +kernel
theorem dX12_differs_57 : decode cX12_differs 57 = .ok (.lload 8, 2) := by decide +kernel
theorem dX12_differs_59 : decode cX12_differs 59 = .ok (.aload_n 0, 1) := by decide +kernel
theorem dX12_differs_60 : decode cX12_differs 60 = .ok (.iload_n 3, 1) := by decide +kernel
theorem dX12_differs_61 : decode cX12_differs 61 = .ok (.iload 10, 2) := by decide +kernel
theorem dX12_differs_63 : decode cX12_differs 63 = .ok (.invokevirtual 394, 3) := by decide +kernel
theorem dX12_differs_66 : decode cX12_differs 66 = .ok (.aload_n 0, 1) := by decide +kernel
theorem dX12_differs_67 : decode cX12_differs 67 = .ok (.iload_n 1, 1) := by decide +kernel
theorem dX12_differs_68 : decode cX12_differs 68 = .ok (.iload 11, 2) := by decide +kernel
theorem dX12_differs_70 : decode cX12_differs 70 = .ok (.iconst 0, 1) := by decide +kernel
theorem dX12_differs_71 : decode cX12_differs 71 = .ok (.invokevirtual 334, 3) := by decide +kernel
theorem dX12_differs_74 : decode cX12_differs 74 = .ok (.bipush 12, 2) := by decide +kernel
theorem dX12_differs_76 : decode cX12_differs 76 = .ok (.idiv, 1) := by decide +kernel
theorem dX12_differs_77 : decode cX12_differs 77 = .ok (.i2l, 1) := by decide +kernel
theorem dX12_differs_78 : decode cX12_differs 78 = .ok (.lsub, 1) := by decide +kernel
theorem dX12_differs_79 : decode cX12_differs 79 = .ok (.iload 10, 2) := by decide +kernel
theorem dX12_differs_81 : decode cX12_differs 81 = .ok (.iload 5, 2) := by decide +kernel
theorem dX12_differs_83 : decode cX12_differs 83 = .ok (.if_icmp .ge 7, 3) := by decide +kernel
theorem dX12_differs_86 : decode cX12_differs 86 = .ok (.iconst 0, 1) := by decide +kernel
theorem dX12_differs_87 : decode cX12_differs 87 = .ok (.goto 5, 3) := by decide +kernel
theorem dX12_differs_90 : decode cX12_differs 90 = .ok (.iload 7, 2) := by decide +kernel
theorem dX12_differs_92 : decode cX12_differs 92 = .ok (.i2l, 1) := by decide +kernel
theorem dX12_differs_93 : decode cX12_differs 93 = .ok (.lsub, 1) := by decide +kernel
theorem dX12_differs_94 : decode cX12_differs 94 = .ok (.invokestatic 131, 3) := by decide +kernel
theorem dX12_differs_97 : decode cX12_differs 97 = .ok (.ladd, 1) := by decide +kernel
theorem dX12_differs_98 : decode cX12_differs 98 = .ok (.lstore 8, 2) := by decide +kernel
theorem dX12_differs_100 : decode cX12_differs 100 = .ok (.iinc 10 1, 3) := by decide +kernel
theorem dX12_differs_103 : decode cX12_differs 103 = .ok (.goto (-97), 3) := by decide +kernel
theorem dX12_differs_106 : decode cX12_differs 106 = .ok (.lload 8, 2) := by decide +kernel
theorem dX12_differs_108 : decode cX12_differs 108 = .ok (.lreturn, 1) := by decide +kernel
noncomputable def f_X12_differs_92 (v1 : Int32) (v2 : Int32) (v3 : Int32) (v4 : Int32) (v5 : Int32) (v6 : Int32) (v7 : Int32) (v10 : Int32) (k0 : Int64) (k1 : Int64) (k2 : Int32) (σ : am_H) : Option ((Int64 × Int32) ⊕ (Int64)) :=
  some (.inl ((k0 + (am_abL (k1 - (Int32.toInt64 k2)))), (v10 + 1)))
set_option maxRecDepth 100000 in
set_option maxHeartbeats 4000000 in
theorem q_X12_differs_92 {X : am_X} (hX : am_ks X = am_ksM) {Q : Option Value → am_H → Prop} (v1 : Int32) (v2 : Int32) (v3 : Int32) (v4 : Int32) (v5 : Int32) (v6 : Int32) (v7 : Int32) (v10 : Int32) (k0 : Int64) (k1 : Int64) (k2 : Int32) (σ : am_H) {o : (Int64 × Int32) ⊕ (Int64)} (hf : f_X12_differs_92 v1 v2 v3 v4 v5 v6 v7 v10 k0 k1 k2 σ = some o) (hk0 : ∀ s, o = .inl s → am_G X gm_X12_differs Q 6 [(0, .ref (am_ad X 12 0)), (1, .int v1), (2, .int v2), (3, .int v3), (4, .int v4), (5, .int v5), (6, .int v6), (7, .int v7), (8, .long s.1), (10, .int s.2)] [] σ) (hk1 : ∀ t, o = .inr t → am_G X gm_X12_differs Q 106 [(8, .long t)] [] σ) : am_G X gm_X12_differs Q 92 [(0, .ref (am_ad X 12 0)), (1, .int v1), (2, .int v2), (3, .int v3), (4, .int v4), (5, .int v5), (6, .int v6), (7, .int v7), (10, .int v10)] [.int k2, .long k1, .long k0] σ := by
  unfold f_X12_differs_92 at hf
  refine g_i2l (pc := 92) dX12_differs_92 ?_
  refine g_lsub (pc := 93) dX12_differs_93 ?_
  refine g_mabsL (pc := 94) (Nat.le_of_ble_eq_true rfl) (Nat.le_of_ble_eq_true rfl) sp_X12_131 dX12_differs_94 ?_
  refine g_ladd (pc := 97) dX12_differs_97 ?_
  refine g_lstore (pc := 98) [(8, .long (k0 + (am_abL (k1 - (Int32.toInt64 k2))))), (0, .ref (am_ad X 12 0)), (1, .int v1), (2, .int v2), (3, .int v3), (4, .int v4), (5, .int v5), (6, .int v6), (7, .int v7), (10, .int v10)] dX12_differs_98 (Nat.le_of_ble_eq_true rfl) rfl ?_
  refine g_iinc (pc := 100) (v := (v10 + 1)) 9 [(10, .int (v10 + 1)), (8, .long (k0 + (am_abL (k1 - (Int32.toInt64 k2))))), (0, .ref (am_ad X 12 0)), (1, .int v1), (2, .int v2), (3, .int v3), (4, .int v4), (5, .int v5), (6, .int v6), (7, .int v7)] dX12_differs_100 rfl rfl (Nat.le_of_ble_eq_true rfl) rfl ?_
  refine g_goto (pc := 103) 6 dX12_differs_103 rfl ?_
  have hz := hk0 _ (Option.some.inj hf).symm
  exact am_sub [2, 3, 4, 5, 6, 7, 8, 9, 1, 0] rfl hz
noncomputable def f_X12_differs_51 (v1 : Int32) (v2 : Int32) (v3 : Int32) (v4 : Int32) (v5 : Int32) (v6 : Int32) (v7 : Int32) (v8 : Int64) (v10 : Int32) (k1 : Int32) (k2 : Int32) (σ : am_H) : Option ((Int64 × Int32) ⊕ (Int64)) :=
  (f_X12_numberOf v3 v10 σ).bind fun p1 =>
  (f_X12_heightOf v1 (am_mx 0 (k1 + k2)) false σ).bind fun p2 =>
  if v10 < v5 then
   (f_X12_differs_92 v1 v2 v3 v4 v5 v6 v7 v10 v8 (p1 - (Int32.toInt64 (p2 / 12))) 0 σ)
  else
  f_X12_differs_92 v1 v2 v3 v4 v5 v6 v7 v10 v8 (p1 - (Int32.toInt64 (p2 / 12))) v7 σ
set_option maxRecDepth 100000 in
set_option maxHeartbeats 4000000 in
theorem q_X12_differs_51 {X : am_X} (hX : am_ks X = am_ksM) {Q : Option Value → am_H → Prop} (v1 : Int32) (v2 : Int32) (v3 : Int32) (v4 : Int32) (v5 : Int32) (v6 : Int32) (v7 : Int32) (v8 : Int64) (v10 : Int32) (k1 : Int32) (k2 : Int32) (σ : am_H) {o : (Int64 × Int32) ⊕ (Int64)} (hf : f_X12_differs_51 v1 v2 v3 v4 v5 v6 v7 v8 v10 k1 k2 σ = some o) (hk0 : ∀ s, o = .inl s → am_G X gm_X12_differs Q 6 [(0, .ref (am_ad X 12 0)), (1, .int v1), (2, .int v2), (3, .int v3), (4, .int v4), (5, .int v5), (6, .int v6), (7, .int v7), (8, .long s.1), (10, .int s.2)] [] σ) (hk1 : ∀ t, o = .inr t → am_G X gm_X12_differs Q 106 [(8, .long t)] [] σ) : am_G X gm_X12_differs Q 51 [(0, .ref (am_ad X 12 0)), (1, .int v1), (2, .int v2), (3, .int v3), (4, .int v4), (5, .int v5), (6, .int v6), (7, .int v7), (8, .long v8), (10, .int v10)] [.int k2, .int k1, .int 0] σ := by
  unfold f_X12_differs_51 at hf
  refine g_iadd (pc := 51) dX12_differs_51 ?_
  refine g_mmax (pc := 52) (Nat.le_of_ble_eq_true rfl) (Nat.le_of_ble_eq_true rfl) sp_X12_438 dX12_differs_52 ?_
  refine g_istore (pc := 55) [(11, .int (am_mx 0 (k1 + k2))), (0, .ref (am_ad X 12 0)), (1, .int v1), (2, .int v2), (3, .int v3), (4, .int v4), (5, .int v5), (6, .int v6), (7, .int v7), (8, .long v8), (10, .int v10)] dX12_differs_55 (Nat.le_of_ble_eq_true rfl) rfl ?_
  refine g_lload (pc := 57) 9 rfl dX12_differs_57 ?_
  refine g_aload_n (pc := 59) 1 rfl dX12_differs_59 rfl ?_
  refine g_iload_n (pc := 60) 4 rfl dX12_differs_60 rfl ?_
  refine g_iload (pc := 61) 10 rfl dX12_differs_61 ?_
  obtain ⟨p1, hp1, hf⟩ := am_bd hf
  refine g_cV (pc := 63) (As := [.int v3, .int v10]) (st := [.long v8]) (st1 := [.long p1, .long v8]) (in_12 hX (by omega)) kk_12 mV_X12_numberOf ln_X12_394 rfl (Nat.le_of_ble_eq_true rfl) (Nat.le_of_ble_eq_true rfl) (k_X12_numberOf hX v3 v10 σ hp1) dX12_differs_63 rfl rfl ?_
  refine g_aload_n (pc := 66) 1 rfl dX12_differs_66 rfl ?_
  refine g_iload_n (pc := 67) 2 rfl dX12_differs_67 rfl ?_
  refine g_iload (pc := 68) 0 rfl dX12_differs_68 ?_
  refine g_iconst (pc := 70) (v := 0) dX12_differs_70 (by decide) ?_
  obtain ⟨p2, hp2, hf⟩ := am_bd hf
  refine g_cV (pc := 71) (As := [.int v1, .int (am_mx 0 (k1 + k2)), .int (am_b false)]) (st := [.long p1, .long v8]) (st1 := [.int p2, .long p1, .long v8]) (in_12 hX (by omega)) kk_12 mV_X12_heightOf ln_X12_334 rfl (Nat.le_of_ble_eq_true rfl) (Nat.le_of_ble_eq_true rfl) (k_X12_heightOf hX v1 (am_mx 0 (k1 + k2)) false σ hp2) dX12_differs_71 rfl rfl ?_
  refine g_bipush (pc := 74) (v := 12) dX12_differs_74 (by decide) ?_
  refine g_idiv (pc := 76) dX12_differs_76 (by decide) ?_
  refine g_i2l (pc := 77) dX12_differs_77 ?_
  refine g_lsub (pc := 78) dX12_differs_78 ?_
  refine g_iload (pc := 79) 10 rfl dX12_differs_79 ?_
  refine g_iload (pc := 81) 6 rfl dX12_differs_81 ?_
  refine bi_ge (pc := 83) 90 dX12_differs_83 rfl (fun c3 => ?_) (fun c3 => ?_)
  · replace hf := am_ifT c3 hf
    refine g_iconst (pc := 86) (v := 0) dX12_differs_86 (by decide) ?_
    refine g_goto (pc := 87) 92 dX12_differs_87 rfl ?_
    exact am_sub [1, 2, 3, 4, 5, 6, 7, 8, 10] rfl (q_X12_differs_92 hX v1 v2 v3 v4 v5 v6 v7 v10 v8 (p1 - (Int32.toInt64 (p2 / 12))) 0 σ hf hk0 hk1)
  replace hf := am_ifF c3 hf
  refine g_iload (pc := 90) 8 rfl dX12_differs_90 ?_
  exact am_sub [1, 2, 3, 4, 5, 6, 7, 8, 10] rfl (q_X12_differs_92 hX v1 v2 v3 v4 v5 v6 v7 v10 v8 (p1 - (Int32.toInt64 (p2 / 12))) v7 σ hf hk0 hk1)
noncomputable def f_X12_differs_6 (v1 : Int32) (v2 : Int32) (v3 : Int32) (v4 : Int32) (v5 : Int32) (v6 : Int32) (v7 : Int32) (v8 : Int64) (v10 : Int32) (σ : am_H) : Option ((Int64 × Int32) ⊕ (Int64)) :=
  if v10 < v4 then
   ((f_X12_numberOf v3 v10 σ).bind fun p2 =>
   if p2 = 1000 then
    (some (.inl (v8, (v10 + 1))))
   else
   (f_X12_hourOf v2 v10 σ).bind fun p4 =>
   if v10 < v5 then
    (f_X12_differs_51 v1 v2 v3 v4 v5 v6 v7 v8 v10 p4 0 σ)
   else
   f_X12_differs_51 v1 v2 v3 v4 v5 v6 v7 v8 v10 p4 v6 σ)
  else
  some (.inr v8)
set_option maxRecDepth 100000 in
set_option maxHeartbeats 4000000 in
theorem q_X12_differs_6 {X : am_X} (hX : am_ks X = am_ksM) {Q : Option Value → am_H → Prop} (v1 : Int32) (v2 : Int32) (v3 : Int32) (v4 : Int32) (v5 : Int32) (v6 : Int32) (v7 : Int32) (v8 : Int64) (v10 : Int32) (σ : am_H) {o : (Int64 × Int32) ⊕ (Int64)} (hf : f_X12_differs_6 v1 v2 v3 v4 v5 v6 v7 v8 v10 σ = some o) (hk0 : ∀ s, o = .inl s → am_G X gm_X12_differs Q 6 [(0, .ref (am_ad X 12 0)), (1, .int v1), (2, .int v2), (3, .int v3), (4, .int v4), (5, .int v5), (6, .int v6), (7, .int v7), (8, .long s.1), (10, .int s.2)] [] σ) (hk1 : ∀ t, o = .inr t → am_G X gm_X12_differs Q 106 [(8, .long t)] [] σ) : am_G X gm_X12_differs Q 6 [(0, .ref (am_ad X 12 0)), (1, .int v1), (2, .int v2), (3, .int v3), (4, .int v4), (5, .int v5), (6, .int v6), (7, .int v7), (8, .long v8), (10, .int v10)] [] σ := by
  unfold f_X12_differs_6 at hf
  refine g_iload (pc := 6) 9 rfl dX12_differs_6 ?_
  refine g_iload (pc := 8) 4 rfl dX12_differs_8 ?_
  refine bi_ge (pc := 10) 106 dX12_differs_10 rfl (fun c1 => ?_) (fun c1 => ?_)
  · replace hf := am_ifT c1 hf
    refine g_aload_n (pc := 13) 0 rfl dX12_differs_13 rfl ?_
    refine g_iload_n (pc := 14) 3 rfl dX12_differs_14 rfl ?_
    refine g_iload (pc := 15) 9 rfl dX12_differs_15 ?_
    obtain ⟨p2, hp2, hf⟩ := am_bd hf
    refine g_cV (pc := 17) (As := [.int v3, .int v10]) (st := []) (st1 := [.long p2]) (in_12 hX (by omega)) kk_12 mV_X12_numberOf ln_X12_394 rfl (Nat.le_of_ble_eq_true rfl) (Nat.le_of_ble_eq_true rfl) (k_X12_numberOf hX v3 v10 σ hp2) dX12_differs_17 rfl rfl ?_
    refine g_ldc2 (pc := 20) (v := 1000) (tb_9 (List.mem_of_getElem? (i := 154) (by decide +kernel))) dX12_differs_20 ?_
    refine g_lcm (pc := 23) dX12_differs_23 ?_
    refine bl_ne (pc := 24) 30 dX12_differs_24 rfl (fun c3 => ?_) (fun c3 => ?_)
    · replace hf := am_ifT c3 hf
      refine g_goto (pc := 27) 100 dX12_differs_27 rfl ?_
      refine g_iinc (pc := 100) (v := (v10 + 1)) 9 [(10, .int (v10 + 1)), (0, .ref (am_ad X 12 0)), (1, .int v1), (2, .int v2), (3, .int v3), (4, .int v4), (5, .int v5), (6, .int v6), (7, .int v7), (8, .long v8)] dX12_differs_100 rfl rfl (Nat.le_of_ble_eq_true rfl) rfl ?_
      refine g_goto (pc := 103) 6 dX12_differs_103 rfl ?_
      have hz := hk0 _ (Option.some.inj hf).symm
      exact am_sub [1, 2, 3, 4, 5, 6, 7, 8, 9, 0] rfl hz
    replace hf := am_ifF c3 hf
    refine g_iconst (pc := 30) (v := 0) dX12_differs_30 (by decide) ?_
    refine g_aload_n (pc := 31) 0 rfl dX12_differs_31 rfl ?_
    refine g_iload_n (pc := 32) 2 rfl dX12_differs_32 rfl ?_
    refine g_iload (pc := 33) 9 rfl dX12_differs_33 ?_
    obtain ⟨p4, hp4, hf⟩ := am_bd hf
    refine g_cV (pc := 35) (As := [.int v2, .int v10]) (st := [.int 0]) (st1 := [.int p4, .int 0]) (in_12 hX (by omega)) kk_12 mV_X12_hourOf ln_X12_408 rfl (Nat.le_of_ble_eq_true rfl) (Nat.le_of_ble_eq_true rfl) (k_X12_hourOf hX v2 v10 σ hp4) dX12_differs_35 rfl rfl ?_
    refine g_iload (pc := 38) 9 rfl dX12_differs_38 ?_
    refine g_iload (pc := 40) 5 rfl dX12_differs_40 ?_
    refine bi_ge (pc := 42) 49 dX12_differs_42 rfl (fun c5 => ?_) (fun c5 => ?_)
    · replace hf := am_ifT c5 hf
      refine g_iconst (pc := 45) (v := 0) dX12_differs_45 (by decide) ?_
      refine g_goto (pc := 46) 51 dX12_differs_46 rfl ?_
      exact q_X12_differs_51 hX v1 v2 v3 v4 v5 v6 v7 v8 v10 p4 0 σ hf hk0 hk1
    replace hf := am_ifF c5 hf
    refine g_iload (pc := 49) 6 rfl dX12_differs_49 ?_
    exact q_X12_differs_51 hX v1 v2 v3 v4 v5 v6 v7 v8 v10 p4 v6 σ hf hk0 hk1
  replace hf := am_ifF c1 hf
  have hz := hk1 _ (Option.some.inj hf).symm
  exact am_sub [8] rfl hz
set_option maxRecDepth 100000 in
set_option maxHeartbeats 4000000 in
theorem l_X12_differs_6 {X : am_X} (hX : am_ks X = am_ksM) {Q : Option Value → am_H → Prop} (v1 : Int32) (v2 : Int32) (v3 : Int32) (v4 : Int32) (v5 : Int32) (v6 : Int32) (v7 : Int32) (σ : am_H) (s : Int64 × Int32) {o : Int64} (hf : am_loop (fun s => f_X12_differs_6 v1 v2 v3 v4 v5 v6 v7 s.1 s.2 σ) s = some o) (hk1 : ∀ t, o = t → am_G X gm_X12_differs Q 106 [(8, .long t)] [] σ) : am_G X gm_X12_differs Q 6 [(0, .ref (am_ad X 12 0)), (1, .int v1), (2, .int v2), (3, .int v3), (4, .int v4), (5, .int v5), (6, .int v6), (7, .int v7), (8, .long s.1), (10, .int s.2)] [] σ := by
  refine am_loop_ind (P := fun s => am_G X gm_X12_differs Q 6 [(0, .ref (am_ad X 12 0)), (1, .int v1), (2, .int v2), (3, .int v3), (4, .int v4), (5, .int v5), (6, .int v6), (7, .int v7), (8, .long s.1), (10, .int s.2)] [] σ) (K := fun r => r = o) ?_ hf rfl
  intro s o1 hb hi hr
  exact q_X12_differs_6 hX v1 v2 v3 v4 v5 v6 v7 s.1 s.2  σ hb hi (fun t e => hk1 t (hr _ e).symm)
noncomputable def f_X12_differs (v1 : Int32) (v2 : Int32) (v3 : Int32) (v4 : Int32) (v5 : Int32) (v6 : Int32) (v7 : Int32) (σ : am_H) : Option (Int64) :=
  (am_loop (fun s => f_X12_differs_6 v1 v2 v3 v4 v5 v6 v7 s.1 s.2 σ) (0, 0)).bind fun w1 =>
  some w1
set_option maxRecDepth 100000 in
set_option maxHeartbeats 4000000 in
theorem q_X12_differs {X : am_X} (hX : am_ks X = am_ksM) {Q : Option Value → am_H → Prop} (v1 : Int32) (v2 : Int32) (v3 : Int32) (v4 : Int32) (v5 : Int32) (v6 : Int32) (v7 : Int32) (σ : am_H) {o : Int64} (hf : f_X12_differs v1 v2 v3 v4 v5 v6 v7 σ = some o) (hk : Q (some (.long o)) σ) : am_G X gm_X12_differs Q 0 [(0, .ref (am_ad X 12 0)), (1, .int v1), (2, .int v2), (3, .int v3), (4, .int v4), (5, .int v5), (6, .int v6), (7, .int v7)] [] σ := by
  unfold f_X12_differs at hf
  refine g_lconst (pc := 0) (v := 0) dX12_differs_0 (by decide) ?_
  refine g_lstore (pc := 1) [(8, .long 0), (0, .ref (am_ad X 12 0)), (1, .int v1), (2, .int v2), (3, .int v3), (4, .int v4), (5, .int v5), (6, .int v6), (7, .int v7)] dX12_differs_1 (Nat.le_of_ble_eq_true rfl) rfl ?_
  refine g_iconst (pc := 3) (v := 0) dX12_differs_3 (by decide) ?_
  refine g_istore (pc := 4) [(10, .int 0), (8, .long 0), (0, .ref (am_ad X 12 0)), (1, .int v1), (2, .int v2), (3, .int v3), (4, .int v4), (5, .int v5), (6, .int v6), (7, .int v7)] dX12_differs_4 (Nat.le_of_ble_eq_true rfl) rfl ?_
  obtain ⟨w1, hw1, hf⟩ := am_bd hf
  refine am_sub [2, 3, 4, 5, 6, 7, 8, 9, 1, 0] rfl (l_X12_differs_6 hX v1 v2 v3 v4 v5 v6 v7  σ (0, 0) hw1 ?_)
  intro t e
  subst e
  refine g_lload (pc := 106) 0 rfl dX12_differs_106 ?_
  have ho := Option.some.inj hf
  subst ho
  exact g_lreturn (pc := 108) (st := []) rfl dX12_differs_108 hk
theorem k_X12_differs {X : am_X} (hX : am_ks X = am_ksM) (v1 : Int32) (v2 : Int32) (v3 : Int32) (v4 : Int32) (v5 : Int32) (v6 : Int32) (v7 : Int32) (σ : am_H) {o : Int64} (hf : f_X12_differs v1 v2 v3 v4 v5 v6 v7 σ = some o) : am_C X gm_X12_differs [.ref (am_ad X 12 0), .int v1, .int v2, .int v3, .int v4, .int v5, .int v6, .int v7] σ (am_is (some (.long o)) σ) :=
  am_ofG rfl (Nat.le_of_ble_eq_true rfl) rfl (q_X12_differs hX v1 v2 v3 v4 v5 v6 v7 σ hf ⟨rfl, rfl⟩)
theorem dX12_slipped_0 : decode cX12_slipped 0 = .ok (.aload_n 0, 1) := by decide +kernel
theorem dX12_slipped_1 : decode cX12_slipped 1 = .ok (.iconst 0, 1) := by decide +kernel
theorem dX12_slipped_2 : decode cX12_slipped 2 = .ok (.putfield 122, 3) := by decide +kernel
theorem dX12_slipped_5 : decode cX12_slipped 5 = .ok (.aload_n 0, 1) := by decide +kernel
theorem dX12_slipped_6 : decode cX12_slipped 6 = .ok (.aload_n 0, 1) := by decide +kernel
theorem dX12_slipped_7 : decode cX12_slipped 7 = .ok (.iload_n 1, 1) := by decide +kernel
theorem dX12_slipped_8 : decode cX12_slipped 8 = .ok (.iload_n 2, 1) := by decide +kernel
theorem dX12_slipped_9 : decode cX12_slipped 9 = .ok (.iload_n 3, 1) := by decide +kernel
theorem dX12_slipped_10 : decode cX12_slipped 10 = .ok (.iload 4, 2) := by decide +kernel
theorem dX12_slipped_12 : decode cX12_slipped 12 = .ok (.iload 5, 2) := by decide +kernel
theorem dX12_slipped_14 : decode cX12_slipped 14 = .ok (.i2l, 1) := by decide +kernel
theorem dX12_slipped_15 : decode cX12_slipped 15 = .ok (.lconst 0, 1) := by decide +kernel
theorem dX12_slipped_16 : decode cX12_slipped 16 = .ok (.lconst 1, 1) := by decide +kernel
theorem dX12_slipped_17 : decode cX12_slipped 17 = .ok (.invokestatic 239, 3) := by decide +kernel
theorem dX12_slipped_20 : decode cX12_slipped 20 = .ok (.invokevirtual 428, 3) := by decide +kernel
theorem dX12_slipped_23 : decode cX12_slipped 23 = .ok (.putfield 125, 3) := by decide +kernel
theorem dX12_slipped_26 : decode cX12_slipped 26 = .ok (.aload_n 0, 1) := by decide +kernel
theorem dX12_slipped_27 : decode cX12_slipped 27 = .ok (.getfield 125, 3) := by decide +kernel
theorem dX12_slipped_30 : decode cX12_slipped 30 = .ok (.ifCond .le 5, 3) := by decide +kernel
theorem dX12_slipped_33 : decode cX12_slipped 33 = .ok (.iconst (-1), 1) := by decide +kernel
theorem dX12_slipped_34 : decode cX12_slipped 34 = .ok (.ireturn, 1) := by decide +kernel
theorem dX12_slipped_35 : decode cX12_slipped 35 = .ok (.iconst 0, 1) := by decide +kernel
theorem dX12_slipped_36 : decode cX12_slipped 36 = .ok (.istore 6, 2) := by decide +kernel
theorem dX12_slipped_38 : decode cX12_slipped 38 = .ok (.iconst 0, 1) := by decide +kernel
theorem dX12_slipped_39 : decode cX12_slipped 39 = .ok (.istore 7, 2) := by decide +kernel
theorem dX12_slipped_41 : decode cX12_slipped 41 = .ok (.aload_n 0, 1) := by decide +kernel
theorem dX12_slipped_42 : decode cX12_slipped 42 = .ok (.iload_n 1, 1) := by decide +kernel
theorem dX12_slipped_43 : decode cX12_slipped 43 = .ok (.iload_n 2, 1) := by decide +kernel
theorem dX12_slipped_44 : decode cX12_slipped 44 = .ok (.iload_n 3, 1) := by decide +kernel
theorem dX12_slipped_45 : decode cX12_slipped 45 = .ok (.iload 4, 2) := by decide +kernel
theorem dX12_slipped_47 : decode cX12_slipped 47 = .ok (.iconst 0, 1) := by decide +kernel
theorem dX12_slipped_48 : decode cX12_slipped 48 = .ok (.iconst 0, 1) := by decide +kernel
theorem dX12_slipped_49 : decode cX12_slipped 49 = .ok (.iconst 0, 1) := by decide +kernel
theorem dX12_slipped_50 : decode cX12_slipped 50 = .ok (.invokevirtual 441, 3) := by decide +kernel
theorem dX12_slipped_53 : decode cX12_slipped 53 = .ok (.lstore 8, 2) := by decide +kernel
theorem dX12_slipped_55 : decode cX12_slipped 55 = .ok (.iload 5, 2) := by decide +kernel
theorem dX12_slipped_57 : decode cX12_slipped 57 = .ok (.ifCond .ne 7, 3) := by decide +kernel
theorem dX12_slipped_60 : decode cX12_slipped 60 = .ok (.iconst 5, 1) := by decide +kernel
theorem dX12_slipped_61 : decode cX12_slipped 61 = .ok (.goto 5, 3) := by decide +kernel
theorem dX12_slipped_64 : decode cX12_slipped 64 = .ok (.bipush 50, 2) := by decide +kernel
theorem dX12_slipped_66 : decode cX12_slipped 66 = .ok (.istore 10, 2) := by decide +kernel
theorem dX12_slipped_68 : decode cX12_slipped 68 = .ok (.iconst 1, 1) := by decide +kernel
theorem dX12_slipped_69 : decode cX12_slipped 69 = .ok (.istore 11, 2) := by decide +kernel
theorem dX12_slipped_71 : decode cX12_slipped 71 = .ok (.iload 11, 2) := by decide +kernel
theorem dX12_slipped_73 : decode cX12_slipped 73 = .ok (.iload 10, 2) := by decide +kernel
theorem dX12_slipped_75 : decode cX12_slipped 75 = .ok (.if_icmp .gt 107, 3) := by decide +kernel
theorem dX12_slipped_78 : decode cX12_slipped 78 = .ok (.iconst (-1), 1) := by decide +kernel
theorem dX12_slipped_79 : decode cX12_slipped 79 = .ok (.istore 12, 2) := by decide +kernel
theorem dX12_slipped_81 : decode cX12_slipped 81 = .ok (.iload 12, 2) := by decide +kernel
theorem dX12_slipped_83 : decode cX12_slipped 83 = .ok (.iconst 2, 1) := by decide +kernel
theorem dX12_slipped_84 : decode cX12_slipped 84 = .ok (.if_icmp .ge 92, 3) := by decide +kernel
theorem dX12_slipped_87 : decode cX12_slipped 87 = .ok (.iconst 0, 1) := by decide +kernel
theorem dX12_slipped_88 : decode cX12_slipped 88 = .ok (.istore 13, 2) := by decide +kernel
theorem dX12_slipped_90 : decode cX12_slipped 90 = .ok (.iload 13, 2) := by decide +kernel
theorem dX12_slipped_92 : decode cX12_slipped 92 = .ok (.iload 4, 2) := by decide +kernel
theorem dX12_slipped_94 : decode cX12_slipped 94 = .ok (.if_icmp .ge 76, 3) := by decide +kernel
theorem dX12_slipped_97 : decode cX12_slipped 97 = .ok (.aload_n 0, 1) := by decide +kernel
theorem dX12_slipped_98 : decode cX12_slipped 98 = .ok (.iload_n 1, 1) := by decide +kernel
theorem dX12_slipped_99 : decode cX12_slipped 99 = .ok (.iload_n 2, 1) := by decide +kernel
theorem dX12_slipped_100 : decode cX12_slipped 100 = .ok (.iload_n 3, 1) := by decide +kernel
theorem dX12_slipped_101 : decode cX12_slipped 101 = .ok (.iload 4, 2) := by decide +kernel
theorem dX12_slipped_103 : decode cX12_slipped 103 = .ok (.iload 13, 2) := by decide +kernel
theorem dX12_slipped_105 : decode cX12_slipped 105 = .ok (.iload 5, 2) := by decide +kernel
theorem dX12_slipped_107 : decode cX12_slipped 107 = .ok (.ifCond .ne 11, 3) := by decide +kernel
theorem dX12_slipped_110 : decode cX12_slipped 110 = .ok (.iload 12, 2) := by decide +kernel
theorem dX12_slipped_112 : decode cX12_slipped 112 = .ok (.iload 11, 2) := by decide +kernel
theorem dX12_slipped_114 : decode cX12_slipped 114 = .ok (.imul, 1) := by decide +kernel
theorem dX12_slipped_115 : decode cX12_slipped 115 = .ok (.goto 4, 3) := by decide +kernel
theorem dX12_slipped_118 : decode cX12_slipped 118 = .ok (.iconst 0, 1) := by decide +kernel
theorem dX12_slipped_119 : decode cX12_slipped 119 = .ok (.iload 5, 2) := by decide +kernel
theorem dX12_slipped_121 : decode cX12_slipped 121 = .ok (.ifCond .ne 7, 3) := by decide +kernel
theorem dX12_slipped_124 : decode cX12_slipped 124 = .ok (.iconst 0, 1) := by decide +kernel
theorem dX12_slipped_125 : decode cX12_slipped 125 = .ok (.goto 8, 3) := by decide +kernel
theorem dX12_slipped_128 : decode cX12_slipped 128 = .ok (.iload 12, 2) := by decide +kernel
theorem dX12_slipped_130 : decode cX12_slipped 130 = .ok (.iload 11, 2) := by decide +kernel
theorem dX12_slipped_132 : decode cX12_slipped 132 = .ok (.imul, 1) := by decide +kernel
theorem dX12_slipped_133 : decode cX12_slipped 133 = .ok (.invokevirtual 441, 3) := by decide +kernel
theorem dX12_slipped_136 : decode cX12_slipped 136 = .ok (.lstore 14, 2) := by decide +kernel
theorem dX12_slipped_138 : decode cX12_slipped 138 = .ok (.lload 14, 2) := by decide +kernel
theorem dX12_slipped_140 : decode cX12_slipped 140 = .ok (.lload 8, 2) := by decide +kernel
theorem dX12_slipped_142 : decode cX12_slipped 142 = .ok (.lcmp, 1) := by decide +kernel
theorem dX12_slipped_143 : decode cX12_slipped 143 = .ok (.ifCond .lt 6, 3) := by decide +kernel
theorem dX12_slipped_146 : decode cX12_slipped 146 = .ok (.goto 18, 3) := by decide +kernel
theorem dX12_slipped_149 : decode cX12_slipped 149 = .ok (.lload 14, 2) := by decide +kernel
theorem dX12_slipped_151 : decode cX12_slipped 151 = .ok (.lstore 8, 2) := by decide +kernel
theorem dX12_slipped_153 : decode cX12_slipped 153 = .ok (.iload 13, 2) := by decide +kernel
theorem dX12_slipped_155 : decode cX12_slipped 155 = .ok (.istore 6, 2) := by decide +kernel
theorem dX12_slipped_157 : decode cX12_slipped 157 = .ok (.iload 12, 2) := by decide +kernel
theorem dX12_slipped_159 : decode cX12_slipped 159 = .ok (.iload 11, 2) := by decide +kernel
theorem dX12_slipped_161 : decode cX12_slipped 161 = .ok (.imul, 1) := by decide +kernel
theorem dX12_slipped_162 : decode cX12_slipped 162 = .ok (.istore 7, 2) := by decide +kernel
theorem dX12_slipped_164 : decode cX12_slipped 164 = .ok (.iinc 13 1, 3) := by decide +kernel
theorem dX12_slipped_167 : decode cX12_slipped 167 = .ok (.goto (-77), 3) := by decide +kernel
theorem dX12_slipped_170 : decode cX12_slipped 170 = .ok (.iinc 12 2, 3) := by decide +kernel
theorem dX12_slipped_173 : decode cX12_slipped 173 = .ok (.goto (-92), 3) := by decide +kernel
theorem dX12_slipped_176 : decode cX12_slipped 176 = .ok (.iinc 11 1, 3) := by decide +kernel
theorem dX12_slipped_179 : decode cX12_slipped 179 = .ok (.goto (-108), 3) := by decide +kernel
theorem dX12_slipped_182 : decode cX12_slipped 182 = .ok (.aload_n 0, 1) := by decide +kernel
theorem dX12_slipped_183 : decode cX12_slipped 183 = .ok (.iconst 1, 1) := by decide +kernel
theorem dX12_slipped_184 : decode cX12_slipped 184 = .ok (.putfield 445, 3) := by decide +kernel
theorem dX12_slipped_187 : decode cX12_slipped 187 = .ok (.aload_n 0, 1) := by decide +kernel
theorem dX12_slipped_188 : decode cX12_slipped 188 = .ok (.iload 7, 2) := by decide +kernel
theorem dX12_slipped_190 : decode cX12_slipped 190 = .ok (.putfield 448, 3) := by decide +kernel
theorem dX12_slipped_193 : decode cX12_slipped 193 = .ok (.iload 6, 2) := by decide +kernel
theorem dX12_slipped_195 : decode cX12_slipped 195 = .ok (.ireturn, 1) := by decide +kernel
noncomputable def f_X12_slipped_133 (v1 : Int32) (v2 : Int32) (v3 : Int32) (v4 : Int32) (v5 : Int32) (v6 : Int32) (v7 : Int32) (v8 : Int64) (v10 : Int32) (v11 : Int32) (v12 : Int32) (v13 : Int32) (k1 : Int32) (k2 : Int32) (k3 : Int32) (k4 : Int32) (k5 : Int32) (k6 : Int32) (k7 : Int32) (σ : am_H) : Option ((Int32 × Int32 × Int64 × Int32) ⊕ (Int32 × Int32 × Int64)) :=
  (f_X12_differs k1 k2 k3 k4 k5 k6 k7 σ).bind fun p1 =>
  if p1 < v8 then
   (some (.inl (v13, (v12 * v11), p1, (v13 + 1))))
  else
  some (.inl (v6, v7, v8, (v13 + 1)))
set_option maxRecDepth 100000 in
set_option maxHeartbeats 4000000 in
theorem q_X12_slipped_133 {X : am_X} (hX : am_ks X = am_ksM) {Q : Option Value → am_H → Prop} (v1 : Int32) (v2 : Int32) (v3 : Int32) (v4 : Int32) (v5 : Int32) (v6 : Int32) (v7 : Int32) (v8 : Int64) (v10 : Int32) (v11 : Int32) (v12 : Int32) (v13 : Int32) (k1 : Int32) (k2 : Int32) (k3 : Int32) (k4 : Int32) (k5 : Int32) (k6 : Int32) (k7 : Int32) (σ : am_H) {o : (Int32 × Int32 × Int64 × Int32) ⊕ (Int32 × Int32 × Int64)} (hf : f_X12_slipped_133 v1 v2 v3 v4 v5 v6 v7 v8 v10 v11 v12 v13 k1 k2 k3 k4 k5 k6 k7 σ = some o) (hk0 : ∀ s, o = .inl s → am_G X gm_X12_slipped Q 90 [(0, .ref (am_ad X 12 0)), (1, .int v1), (2, .int v2), (3, .int v3), (4, .int v4), (5, .int v5), (6, .int s.1), (7, .int s.2.1), (8, .long s.2.2.1), (10, .int v10), (11, .int v11), (12, .int v12), (13, .int s.2.2.2)] [] σ) (hk1 : ∀ t, o = .inr t → am_G X gm_X12_slipped Q 170 [(0, .ref (am_ad X 12 0)), (1, .int v1), (2, .int v2), (3, .int v3), (4, .int v4), (5, .int v5), (6, .int t.1), (7, .int t.2.1), (8, .long t.2.2), (10, .int v10), (11, .int v11), (12, .int v12)] [] σ) : am_G X gm_X12_slipped Q 133 [(0, .ref (am_ad X 12 0)), (1, .int v1), (2, .int v2), (3, .int v3), (4, .int v4), (5, .int v5), (6, .int v6), (7, .int v7), (8, .long v8), (10, .int v10), (11, .int v11), (12, .int v12), (13, .int v13)] [.int k7, .int k6, .int k5, .int k4, .int k3, .int k2, .int k1, .ref (am_ad X 12 0)] σ := by
  unfold f_X12_slipped_133 at hf
  obtain ⟨p1, hp1, hf⟩ := am_bd hf
  refine g_cV (pc := 133) (As := [.int k1, .int k2, .int k3, .int k4, .int k5, .int k6, .int k7]) (st := []) (st1 := [.long p1]) (in_12 hX (by omega)) kk_12 mV_X12_differs ln_X12_441 rfl (Nat.le_of_ble_eq_true rfl) (Nat.le_of_ble_eq_true rfl) (k_X12_differs hX k1 k2 k3 k4 k5 k6 k7 σ hp1) dX12_slipped_133 rfl rfl ?_
  refine g_lstore (pc := 136) [(14, .long p1), (0, .ref (am_ad X 12 0)), (1, .int v1), (2, .int v2), (3, .int v3), (4, .int v4), (5, .int v5), (6, .int v6), (7, .int v7), (8, .long v8), (10, .int v10), (11, .int v11), (12, .int v12), (13, .int v13)] dX12_slipped_136 (Nat.le_of_ble_eq_true rfl) rfl ?_
  refine g_lload (pc := 138) 0 rfl dX12_slipped_138 ?_
  refine g_lload (pc := 140) 9 rfl dX12_slipped_140 ?_
  refine g_lcm (pc := 142) dX12_slipped_142 ?_
  refine bl_lt (pc := 143) 149 dX12_slipped_143 rfl (fun c2 => ?_) (fun c2 => ?_)
  · replace hf := am_ifT c2 hf
    refine g_lload (pc := 149) 0 rfl dX12_slipped_149 ?_
    refine g_lstore (pc := 151) [(8, .long p1), (14, .long p1), (0, .ref (am_ad X 12 0)), (1, .int v1), (2, .int v2), (3, .int v3), (4, .int v4), (5, .int v5), (6, .int v6), (7, .int v7), (10, .int v10), (11, .int v11), (12, .int v12), (13, .int v13)] dX12_slipped_151 (Nat.le_of_ble_eq_true rfl) rfl ?_
    refine g_iload (pc := 153) 13 rfl dX12_slipped_153 ?_
    refine g_istore (pc := 155) [(6, .int v13), (8, .long p1), (14, .long p1), (0, .ref (am_ad X 12 0)), (1, .int v1), (2, .int v2), (3, .int v3), (4, .int v4), (5, .int v5), (7, .int v7), (10, .int v10), (11, .int v11), (12, .int v12), (13, .int v13)] dX12_slipped_155 (Nat.le_of_ble_eq_true rfl) rfl ?_
    refine g_iload (pc := 157) 12 rfl dX12_slipped_157 ?_
    refine g_iload (pc := 159) 11 rfl dX12_slipped_159 ?_
    refine g_imul (pc := 161) dX12_slipped_161 ?_
    refine g_istore (pc := 162) [(7, .int (v12 * v11)), (6, .int v13), (8, .long p1), (14, .long p1), (0, .ref (am_ad X 12 0)), (1, .int v1), (2, .int v2), (3, .int v3), (4, .int v4), (5, .int v5), (10, .int v10), (11, .int v11), (12, .int v12), (13, .int v13)] dX12_slipped_162 (Nat.le_of_ble_eq_true rfl) rfl ?_
    refine g_iinc (pc := 164) (v := (v13 + 1)) 13 [(13, .int (v13 + 1)), (7, .int (v12 * v11)), (6, .int v13), (8, .long p1), (14, .long p1), (0, .ref (am_ad X 12 0)), (1, .int v1), (2, .int v2), (3, .int v3), (4, .int v4), (5, .int v5), (10, .int v10), (11, .int v11), (12, .int v12)] dX12_slipped_164 rfl rfl (Nat.le_of_ble_eq_true rfl) rfl ?_
    refine g_goto (pc := 167) 90 dX12_slipped_167 rfl ?_
    have hz := hk0 _ (Option.some.inj hf).symm
    exact am_sub [5, 6, 7, 8, 9, 10, 2, 1, 3, 11, 12, 13, 0] rfl hz
  replace hf := am_ifF c2 hf
  refine g_goto (pc := 146) 164 dX12_slipped_146 rfl ?_
  refine g_iinc (pc := 164) (v := (v13 + 1)) 13 [(13, .int (v13 + 1)), (14, .long p1), (0, .ref (am_ad X 12 0)), (1, .int v1), (2, .int v2), (3, .int v3), (4, .int v4), (5, .int v5), (6, .int v6), (7, .int v7), (8, .long v8), (10, .int v10), (11, .int v11), (12, .int v12)] dX12_slipped_164 rfl rfl (Nat.le_of_ble_eq_true rfl) rfl ?_
  refine g_goto (pc := 167) 90 dX12_slipped_167 rfl ?_
  have hz := hk0 _ (Option.some.inj hf).symm
  exact am_sub [2, 3, 4, 5, 6, 7, 8, 9, 10, 11, 12, 13, 0] rfl hz
noncomputable def f_X12_slipped_119 (v1 : Int32) (v2 : Int32) (v3 : Int32) (v4 : Int32) (v5 : Int32) (v6 : Int32) (v7 : Int32) (v8 : Int64) (v10 : Int32) (v11 : Int32) (v12 : Int32) (v13 : Int32) (k1 : Int32) (k2 : Int32) (k3 : Int32) (k4 : Int32) (k5 : Int32) (k6 : Int32) (σ : am_H) : Option ((Int32 × Int32 × Int64 × Int32) ⊕ (Int32 × Int32 × Int64)) :=
  if v5 = 0 then
   (f_X12_slipped_133 v1 v2 v3 v4 v5 v6 v7 v8 v10 v11 v12 v13 k1 k2 k3 k4 k5 k6 0 σ)
  else
  f_X12_slipped_133 v1 v2 v3 v4 v5 v6 v7 v8 v10 v11 v12 v13 k1 k2 k3 k4 k5 k6 (v12 * v11) σ
set_option maxRecDepth 100000 in
set_option maxHeartbeats 4000000 in
theorem q_X12_slipped_119 {X : am_X} (hX : am_ks X = am_ksM) {Q : Option Value → am_H → Prop} (v1 : Int32) (v2 : Int32) (v3 : Int32) (v4 : Int32) (v5 : Int32) (v6 : Int32) (v7 : Int32) (v8 : Int64) (v10 : Int32) (v11 : Int32) (v12 : Int32) (v13 : Int32) (k1 : Int32) (k2 : Int32) (k3 : Int32) (k4 : Int32) (k5 : Int32) (k6 : Int32) (σ : am_H) {o : (Int32 × Int32 × Int64 × Int32) ⊕ (Int32 × Int32 × Int64)} (hf : f_X12_slipped_119 v1 v2 v3 v4 v5 v6 v7 v8 v10 v11 v12 v13 k1 k2 k3 k4 k5 k6 σ = some o) (hk0 : ∀ s, o = .inl s → am_G X gm_X12_slipped Q 90 [(0, .ref (am_ad X 12 0)), (1, .int v1), (2, .int v2), (3, .int v3), (4, .int v4), (5, .int v5), (6, .int s.1), (7, .int s.2.1), (8, .long s.2.2.1), (10, .int v10), (11, .int v11), (12, .int v12), (13, .int s.2.2.2)] [] σ) (hk1 : ∀ t, o = .inr t → am_G X gm_X12_slipped Q 170 [(0, .ref (am_ad X 12 0)), (1, .int v1), (2, .int v2), (3, .int v3), (4, .int v4), (5, .int v5), (6, .int t.1), (7, .int t.2.1), (8, .long t.2.2), (10, .int v10), (11, .int v11), (12, .int v12)] [] σ) : am_G X gm_X12_slipped Q 119 [(0, .ref (am_ad X 12 0)), (1, .int v1), (2, .int v2), (3, .int v3), (4, .int v4), (5, .int v5), (6, .int v6), (7, .int v7), (8, .long v8), (10, .int v10), (11, .int v11), (12, .int v12), (13, .int v13)] [.int k6, .int k5, .int k4, .int k3, .int k2, .int k1, .ref (am_ad X 12 0)] σ := by
  unfold f_X12_slipped_119 at hf
  refine g_iload (pc := 119) 5 rfl dX12_slipped_119 ?_
  refine bz_ne (pc := 121) 128 dX12_slipped_121 rfl (fun c1 => ?_) (fun c1 => ?_)
  · replace hf := am_ifT c1 hf
    refine g_iconst (pc := 124) (v := 0) dX12_slipped_124 (by decide) ?_
    refine g_goto (pc := 125) 133 dX12_slipped_125 rfl ?_
    exact q_X12_slipped_133 hX v1 v2 v3 v4 v5 v6 v7 v8 v10 v11 v12 v13 k1 k2 k3 k4 k5 k6 0 σ hf hk0 hk1
  replace hf := am_ifF c1 hf
  refine g_iload (pc := 128) 11 rfl dX12_slipped_128 ?_
  refine g_iload (pc := 130) 10 rfl dX12_slipped_130 ?_
  refine g_imul (pc := 132) dX12_slipped_132 ?_
  exact q_X12_slipped_133 hX v1 v2 v3 v4 v5 v6 v7 v8 v10 v11 v12 v13 k1 k2 k3 k4 k5 k6 (v12 * v11) σ hf hk0 hk1
noncomputable def f_X12_slipped_90 (v1 : Int32) (v2 : Int32) (v3 : Int32) (v4 : Int32) (v5 : Int32) (v6 : Int32) (v7 : Int32) (v8 : Int64) (v10 : Int32) (v11 : Int32) (v12 : Int32) (v13 : Int32) (σ : am_H) : Option ((Int32 × Int32 × Int64 × Int32) ⊕ (Int32 × Int32 × Int64)) :=
  if v13 < v4 then
   (if v5 = 0 then
    (f_X12_slipped_119 v1 v2 v3 v4 v5 v6 v7 v8 v10 v11 v12 v13 v1 v2 v3 v4 v13 (v12 * v11) σ)
   else
   f_X12_slipped_119 v1 v2 v3 v4 v5 v6 v7 v8 v10 v11 v12 v13 v1 v2 v3 v4 v13 0 σ)
  else
  some (.inr (v6, v7, v8))
set_option maxRecDepth 100000 in
set_option maxHeartbeats 4000000 in
theorem q_X12_slipped_90 {X : am_X} (hX : am_ks X = am_ksM) {Q : Option Value → am_H → Prop} (v1 : Int32) (v2 : Int32) (v3 : Int32) (v4 : Int32) (v5 : Int32) (v6 : Int32) (v7 : Int32) (v8 : Int64) (v10 : Int32) (v11 : Int32) (v12 : Int32) (v13 : Int32) (σ : am_H) {o : (Int32 × Int32 × Int64 × Int32) ⊕ (Int32 × Int32 × Int64)} (hf : f_X12_slipped_90 v1 v2 v3 v4 v5 v6 v7 v8 v10 v11 v12 v13 σ = some o) (hk0 : ∀ s, o = .inl s → am_G X gm_X12_slipped Q 90 [(0, .ref (am_ad X 12 0)), (1, .int v1), (2, .int v2), (3, .int v3), (4, .int v4), (5, .int v5), (6, .int s.1), (7, .int s.2.1), (8, .long s.2.2.1), (10, .int v10), (11, .int v11), (12, .int v12), (13, .int s.2.2.2)] [] σ) (hk1 : ∀ t, o = .inr t → am_G X gm_X12_slipped Q 170 [(0, .ref (am_ad X 12 0)), (1, .int v1), (2, .int v2), (3, .int v3), (4, .int v4), (5, .int v5), (6, .int t.1), (7, .int t.2.1), (8, .long t.2.2), (10, .int v10), (11, .int v11), (12, .int v12)] [] σ) : am_G X gm_X12_slipped Q 90 [(0, .ref (am_ad X 12 0)), (1, .int v1), (2, .int v2), (3, .int v3), (4, .int v4), (5, .int v5), (6, .int v6), (7, .int v7), (8, .long v8), (10, .int v10), (11, .int v11), (12, .int v12), (13, .int v13)] [] σ := by
  unfold f_X12_slipped_90 at hf
  refine g_iload (pc := 90) 12 rfl dX12_slipped_90 ?_
  refine g_iload (pc := 92) 4 rfl dX12_slipped_92 ?_
  refine bi_ge (pc := 94) 170 dX12_slipped_94 rfl (fun c1 => ?_) (fun c1 => ?_)
  · replace hf := am_ifT c1 hf
    refine g_aload_n (pc := 97) 0 rfl dX12_slipped_97 rfl ?_
    refine g_iload_n (pc := 98) 1 rfl dX12_slipped_98 rfl ?_
    refine g_iload_n (pc := 99) 2 rfl dX12_slipped_99 rfl ?_
    refine g_iload_n (pc := 100) 3 rfl dX12_slipped_100 rfl ?_
    refine g_iload (pc := 101) 4 rfl dX12_slipped_101 ?_
    refine g_iload (pc := 103) 12 rfl dX12_slipped_103 ?_
    refine g_iload (pc := 105) 5 rfl dX12_slipped_105 ?_
    refine bz_ne (pc := 107) 118 dX12_slipped_107 rfl (fun c2 => ?_) (fun c2 => ?_)
    · replace hf := am_ifT c2 hf
      refine g_iload (pc := 110) 11 rfl dX12_slipped_110 ?_
      refine g_iload (pc := 112) 10 rfl dX12_slipped_112 ?_
      refine g_imul (pc := 114) dX12_slipped_114 ?_
      refine g_goto (pc := 115) 119 dX12_slipped_115 rfl ?_
      exact q_X12_slipped_119 hX v1 v2 v3 v4 v5 v6 v7 v8 v10 v11 v12 v13 v1 v2 v3 v4 v13 (v12 * v11) σ hf hk0 hk1
    replace hf := am_ifF c2 hf
    refine g_iconst (pc := 118) (v := 0) dX12_slipped_118 (by decide) ?_
    exact q_X12_slipped_119 hX v1 v2 v3 v4 v5 v6 v7 v8 v10 v11 v12 v13 v1 v2 v3 v4 v13 0 σ hf hk0 hk1
  replace hf := am_ifF c1 hf
  have hz := hk1 _ (Option.some.inj hf).symm
  exact am_sub [0, 1, 2, 3, 4, 5, 6, 7, 8, 9, 10, 11] rfl hz
set_option maxRecDepth 100000 in
set_option maxHeartbeats 4000000 in
theorem l_X12_slipped_90 {X : am_X} (hX : am_ks X = am_ksM) {Q : Option Value → am_H → Prop} (v1 : Int32) (v2 : Int32) (v3 : Int32) (v4 : Int32) (v5 : Int32) (v10 : Int32) (v11 : Int32) (v12 : Int32) (σ : am_H) (s : Int32 × Int32 × Int64 × Int32) {o : Int32 × Int32 × Int64} (hf : am_loop (fun s => f_X12_slipped_90 v1 v2 v3 v4 v5 s.1 s.2.1 s.2.2.1 v10 v11 v12 s.2.2.2 σ) s = some o) (hk1 : ∀ t, o = t → am_G X gm_X12_slipped Q 170 [(0, .ref (am_ad X 12 0)), (1, .int v1), (2, .int v2), (3, .int v3), (4, .int v4), (5, .int v5), (6, .int t.1), (7, .int t.2.1), (8, .long t.2.2), (10, .int v10), (11, .int v11), (12, .int v12)] [] σ) : am_G X gm_X12_slipped Q 90 [(0, .ref (am_ad X 12 0)), (1, .int v1), (2, .int v2), (3, .int v3), (4, .int v4), (5, .int v5), (6, .int s.1), (7, .int s.2.1), (8, .long s.2.2.1), (10, .int v10), (11, .int v11), (12, .int v12), (13, .int s.2.2.2)] [] σ := by
  refine am_loop_ind (P := fun s => am_G X gm_X12_slipped Q 90 [(0, .ref (am_ad X 12 0)), (1, .int v1), (2, .int v2), (3, .int v3), (4, .int v4), (5, .int v5), (6, .int s.1), (7, .int s.2.1), (8, .long s.2.2.1), (10, .int v10), (11, .int v11), (12, .int v12), (13, .int s.2.2.2)] [] σ) (K := fun r => r = o) ?_ hf rfl
  intro s o1 hb hi hr
  exact q_X12_slipped_90 hX v1 v2 v3 v4 v5 s.1 s.2.1 s.2.2.1 v10 v11 v12 s.2.2.2  σ hb hi (fun t e => hk1 t (hr _ e).symm)
noncomputable def f_X12_slipped_81 (v1 : Int32) (v2 : Int32) (v3 : Int32) (v4 : Int32) (v5 : Int32) (v6 : Int32) (v7 : Int32) (v8 : Int64) (v10 : Int32) (v11 : Int32) (v12 : Int32) (σ : am_H) : Option ((Int32 × Int32 × Int64 × Int32) ⊕ (Int32 × Int32 × Int64)) :=
  if v12 < 2 then
   ((am_loop (fun s => f_X12_slipped_90 v1 v2 v3 v4 v5 s.1 s.2.1 s.2.2.1 v10 v11 v12 s.2.2.2 σ) (v6, v7, v8, 0)).bind fun w2 =>
   some (.inl (w2.1, w2.2.1, w2.2.2, (v12 + 2))))
  else
  some (.inr (v6, v7, v8))
set_option maxRecDepth 100000 in
set_option maxHeartbeats 4000000 in
theorem q_X12_slipped_81 {X : am_X} (hX : am_ks X = am_ksM) {Q : Option Value → am_H → Prop} (v1 : Int32) (v2 : Int32) (v3 : Int32) (v4 : Int32) (v5 : Int32) (v6 : Int32) (v7 : Int32) (v8 : Int64) (v10 : Int32) (v11 : Int32) (v12 : Int32) (σ : am_H) {o : (Int32 × Int32 × Int64 × Int32) ⊕ (Int32 × Int32 × Int64)} (hf : f_X12_slipped_81 v1 v2 v3 v4 v5 v6 v7 v8 v10 v11 v12 σ = some o) (hk0 : ∀ s, o = .inl s → am_G X gm_X12_slipped Q 81 [(0, .ref (am_ad X 12 0)), (1, .int v1), (2, .int v2), (3, .int v3), (4, .int v4), (5, .int v5), (6, .int s.1), (7, .int s.2.1), (8, .long s.2.2.1), (10, .int v10), (11, .int v11), (12, .int s.2.2.2)] [] σ) (hk1 : ∀ t, o = .inr t → am_G X gm_X12_slipped Q 176 [(0, .ref (am_ad X 12 0)), (1, .int v1), (2, .int v2), (3, .int v3), (4, .int v4), (5, .int v5), (6, .int t.1), (7, .int t.2.1), (8, .long t.2.2), (10, .int v10), (11, .int v11)] [] σ) : am_G X gm_X12_slipped Q 81 [(0, .ref (am_ad X 12 0)), (1, .int v1), (2, .int v2), (3, .int v3), (4, .int v4), (5, .int v5), (6, .int v6), (7, .int v7), (8, .long v8), (10, .int v10), (11, .int v11), (12, .int v12)] [] σ := by
  unfold f_X12_slipped_81 at hf
  refine g_iload (pc := 81) 11 rfl dX12_slipped_81 ?_
  refine g_iconst (pc := 83) (v := 2) dX12_slipped_83 (by decide) ?_
  refine bi_ge (pc := 84) 176 dX12_slipped_84 rfl (fun c1 => ?_) (fun c1 => ?_)
  · replace hf := am_ifT c1 hf
    refine g_iconst (pc := 87) (v := 0) dX12_slipped_87 (by decide) ?_
    refine g_istore (pc := 88) [(13, .int 0), (0, .ref (am_ad X 12 0)), (1, .int v1), (2, .int v2), (3, .int v3), (4, .int v4), (5, .int v5), (6, .int v6), (7, .int v7), (8, .long v8), (10, .int v10), (11, .int v11), (12, .int v12)] dX12_slipped_88 (Nat.le_of_ble_eq_true rfl) rfl ?_
    obtain ⟨w2, hw2, hf⟩ := am_bd hf
    refine am_sub [1, 2, 3, 4, 5, 6, 7, 8, 9, 10, 11, 12, 0] rfl (l_X12_slipped_90 hX v1 v2 v3 v4 v5 v10 v11 v12  σ (v6, v7, v8, 0) hw2 ?_)
    intro t e
    subst e
    refine g_iinc (pc := 170) (v := (v12 + 2)) 11 [(12, .int (v12 + 2)), (0, .ref (am_ad X 12 0)), (1, .int v1), (2, .int v2), (3, .int v3), (4, .int v4), (5, .int v5), (6, .int w2.1), (7, .int w2.2.1), (8, .long w2.2.2), (10, .int v10), (11, .int v11)] dX12_slipped_170 rfl rfl (Nat.le_of_ble_eq_true rfl) rfl ?_
    refine g_goto (pc := 173) 81 dX12_slipped_173 rfl ?_
    have hz := hk0 _ (Option.some.inj hf).symm
    exact am_sub [1, 2, 3, 4, 5, 6, 7, 8, 9, 10, 11, 0] rfl hz
  replace hf := am_ifF c1 hf
  have hz := hk1 _ (Option.some.inj hf).symm
  exact am_sub [0, 1, 2, 3, 4, 5, 6, 7, 8, 9, 10] rfl hz
set_option maxRecDepth 100000 in
set_option maxHeartbeats 4000000 in
theorem l_X12_slipped_81 {X : am_X} (hX : am_ks X = am_ksM) {Q : Option Value → am_H → Prop} (v1 : Int32) (v2 : Int32) (v3 : Int32) (v4 : Int32) (v5 : Int32) (v10 : Int32) (v11 : Int32) (σ : am_H) (s : Int32 × Int32 × Int64 × Int32) {o : Int32 × Int32 × Int64} (hf : am_loop (fun s => f_X12_slipped_81 v1 v2 v3 v4 v5 s.1 s.2.1 s.2.2.1 v10 v11 s.2.2.2 σ) s = some o) (hk1 : ∀ t, o = t → am_G X gm_X12_slipped Q 176 [(0, .ref (am_ad X 12 0)), (1, .int v1), (2, .int v2), (3, .int v3), (4, .int v4), (5, .int v5), (6, .int t.1), (7, .int t.2.1), (8, .long t.2.2), (10, .int v10), (11, .int v11)] [] σ) : am_G X gm_X12_slipped Q 81 [(0, .ref (am_ad X 12 0)), (1, .int v1), (2, .int v2), (3, .int v3), (4, .int v4), (5, .int v5), (6, .int s.1), (7, .int s.2.1), (8, .long s.2.2.1), (10, .int v10), (11, .int v11), (12, .int s.2.2.2)] [] σ := by
  refine am_loop_ind (P := fun s => am_G X gm_X12_slipped Q 81 [(0, .ref (am_ad X 12 0)), (1, .int v1), (2, .int v2), (3, .int v3), (4, .int v4), (5, .int v5), (6, .int s.1), (7, .int s.2.1), (8, .long s.2.2.1), (10, .int v10), (11, .int v11), (12, .int s.2.2.2)] [] σ) (K := fun r => r = o) ?_ hf rfl
  intro s o1 hb hi hr
  exact q_X12_slipped_81 hX v1 v2 v3 v4 v5 s.1 s.2.1 s.2.2.1 v10 v11 s.2.2.2  σ hb hi (fun t e => hk1 t (hr _ e).symm)
noncomputable def f_X12_slipped_71 (v1 : Int32) (v2 : Int32) (v3 : Int32) (v4 : Int32) (v5 : Int32) (v6 : Int32) (v7 : Int32) (v8 : Int64) (v10 : Int32) (v11 : Int32) (σ : am_H) : Option ((Int32 × Int32 × Int64 × Int32) ⊕ (Int32 × Int32)) :=
  if v10 < v11 then
   (some (.inr (v6, v7)))
  else
  (am_loop (fun s => f_X12_slipped_81 v1 v2 v3 v4 v5 s.1 s.2.1 s.2.2.1 v10 v11 s.2.2.2 σ) (v6, v7, v8, (-1))).bind fun w2 =>
  some (.inl (w2.1, w2.2.1, w2.2.2, (v11 + 1)))
set_option maxRecDepth 100000 in
set_option maxHeartbeats 4000000 in
theorem q_X12_slipped_71 {X : am_X} (hX : am_ks X = am_ksM) {Q : Option Value → am_H → Prop} (v1 : Int32) (v2 : Int32) (v3 : Int32) (v4 : Int32) (v5 : Int32) (v6 : Int32) (v7 : Int32) (v8 : Int64) (v10 : Int32) (v11 : Int32) (σ : am_H) {o : (Int32 × Int32 × Int64 × Int32) ⊕ (Int32 × Int32)} (hf : f_X12_slipped_71 v1 v2 v3 v4 v5 v6 v7 v8 v10 v11 σ = some o) (hk0 : ∀ s, o = .inl s → am_G X gm_X12_slipped Q 71 [(0, .ref (am_ad X 12 0)), (1, .int v1), (2, .int v2), (3, .int v3), (4, .int v4), (5, .int v5), (6, .int s.1), (7, .int s.2.1), (8, .long s.2.2.1), (10, .int v10), (11, .int s.2.2.2)] [] σ) (hk1 : ∀ t, o = .inr t → am_G X gm_X12_slipped Q 182 [(0, .ref (am_ad X 12 0)), (6, .int t.1), (7, .int t.2)] [] σ) : am_G X gm_X12_slipped Q 71 [(0, .ref (am_ad X 12 0)), (1, .int v1), (2, .int v2), (3, .int v3), (4, .int v4), (5, .int v5), (6, .int v6), (7, .int v7), (8, .long v8), (10, .int v10), (11, .int v11)] [] σ := by
  unfold f_X12_slipped_71 at hf
  refine g_iload (pc := 71) 10 rfl dX12_slipped_71 ?_
  refine g_iload (pc := 73) 9 rfl dX12_slipped_73 ?_
  refine bi_gt (pc := 75) 182 dX12_slipped_75 rfl (fun c1 => ?_) (fun c1 => ?_)
  · replace hf := am_ifT c1 hf
    have hz := hk1 _ (Option.some.inj hf).symm
    exact am_sub [0, 6, 7] rfl hz
  replace hf := am_ifF c1 hf
  refine g_iconst (pc := 78) (v := (-1)) dX12_slipped_78 (by decide) ?_
  refine g_istore (pc := 79) [(12, .int (-1)), (0, .ref (am_ad X 12 0)), (1, .int v1), (2, .int v2), (3, .int v3), (4, .int v4), (5, .int v5), (6, .int v6), (7, .int v7), (8, .long v8), (10, .int v10), (11, .int v11)] dX12_slipped_79 (Nat.le_of_ble_eq_true rfl) rfl ?_
  obtain ⟨w2, hw2, hf⟩ := am_bd hf
  refine am_sub [1, 2, 3, 4, 5, 6, 7, 8, 9, 10, 11, 0] rfl (l_X12_slipped_81 hX v1 v2 v3 v4 v5 v10 v11  σ (v6, v7, v8, (-1)) hw2 ?_)
  intro t e
  subst e
  refine g_iinc (pc := 176) (v := (v11 + 1)) 10 [(11, .int (v11 + 1)), (0, .ref (am_ad X 12 0)), (1, .int v1), (2, .int v2), (3, .int v3), (4, .int v4), (5, .int v5), (6, .int w2.1), (7, .int w2.2.1), (8, .long w2.2.2), (10, .int v10)] dX12_slipped_176 rfl rfl (Nat.le_of_ble_eq_true rfl) rfl ?_
  refine g_goto (pc := 179) 71 dX12_slipped_179 rfl ?_
  have hz := hk0 _ (Option.some.inj hf).symm
  exact am_sub [1, 2, 3, 4, 5, 6, 7, 8, 9, 10, 0] rfl hz
set_option maxRecDepth 100000 in
set_option maxHeartbeats 4000000 in
theorem l_X12_slipped_71 {X : am_X} (hX : am_ks X = am_ksM) {Q : Option Value → am_H → Prop} (v1 : Int32) (v2 : Int32) (v3 : Int32) (v4 : Int32) (v5 : Int32) (v10 : Int32) (σ : am_H) (s : Int32 × Int32 × Int64 × Int32) {o : Int32 × Int32} (hf : am_loop (fun s => f_X12_slipped_71 v1 v2 v3 v4 v5 s.1 s.2.1 s.2.2.1 v10 s.2.2.2 σ) s = some o) (hk1 : ∀ t, o = t → am_G X gm_X12_slipped Q 182 [(0, .ref (am_ad X 12 0)), (6, .int t.1), (7, .int t.2)] [] σ) : am_G X gm_X12_slipped Q 71 [(0, .ref (am_ad X 12 0)), (1, .int v1), (2, .int v2), (3, .int v3), (4, .int v4), (5, .int v5), (6, .int s.1), (7, .int s.2.1), (8, .long s.2.2.1), (10, .int v10), (11, .int s.2.2.2)] [] σ := by
  refine am_loop_ind (P := fun s => am_G X gm_X12_slipped Q 71 [(0, .ref (am_ad X 12 0)), (1, .int v1), (2, .int v2), (3, .int v3), (4, .int v4), (5, .int v5), (6, .int s.1), (7, .int s.2.1), (8, .long s.2.2.1), (10, .int v10), (11, .int s.2.2.2)] [] σ) (K := fun r => r = o) ?_ hf rfl
  intro s o1 hb hi hr
  exact q_X12_slipped_71 hX v1 v2 v3 v4 v5 s.1 s.2.1 s.2.2.1 v10 s.2.2.2  σ hb hi (fun t e => hk1 t (hr _ e).symm)
noncomputable def f_X12_slipped (v1 : Int32) (v2 : Int32) (v3 : Int32) (v4 : Int32) (v5 : Int32) (σ : am_H) : Option (Int32 × am_H) :=
  (some (am_wI σ 12 0 1 0)).bind fun s1 =>
  (f_X12_isIn (Int32.toInt64 v5) 0 1 s1).bind fun p2 =>
  (f_X12_asksGauge v1 v2 v3 v4 p2 s1).bind fun p3 =>
  (some (am_wI s1 12 0 0 p3)).bind fun s4 =>
  if 0 < (s4.1 12 0 0) then
   (some ((-1), s4))
  else
  (f_X12_differs v1 v2 v3 v4 0 0 0 s4).bind fun p6 =>
  if v5 = 0 then
   ((am_loop (fun s => f_X12_slipped_71 v1 v2 v3 v4 v5 s.1 s.2.1 s.2.2.1 5 s.2.2.2 s4) (0, 0, p6, 1)).bind fun w8 =>
   (some (am_wI s4 12 0 37 (am_b true))).bind fun s9 =>
   (some (am_wI s9 12 0 31 w8.2)).bind fun s10 =>
   some (w8.1, s10))
  else
  (am_loop (fun s => f_X12_slipped_71 v1 v2 v3 v4 v5 s.1 s.2.1 s.2.2.1 50 s.2.2.2 s4) (0, 0, p6, 1)).bind fun w11 =>
  (some (am_wI s4 12 0 37 (am_b true))).bind fun s12 =>
  (some (am_wI s12 12 0 31 w11.2)).bind fun s13 =>
  some (w11.1, s13)
set_option maxRecDepth 100000 in
set_option maxHeartbeats 4000000 in
theorem q_X12_slipped {X : am_X} (hX : am_ks X = am_ksM) {Q : Option Value → am_H → Prop} (v1 : Int32) (v2 : Int32) (v3 : Int32) (v4 : Int32) (v5 : Int32) (σ : am_H) {o : Int32 × am_H} (hf : f_X12_slipped v1 v2 v3 v4 v5 σ = some o) (hk : Q (some (.int o.1)) o.2) : am_G X gm_X12_slipped Q 0 [(0, .ref (am_ad X 12 0)), (1, .int v1), (2, .int v2), (3, .int v3), (4, .int v4), (5, .int v5)] [] σ := by
  unfold f_X12_slipped at hf
  refine g_aload_n (pc := 0) 0 rfl dX12_slipped_0 rfl ?_
  refine g_iconst (pc := 1) (v := 0) dX12_slipped_1 (by decide) ?_
  obtain ⟨s1, hs1, hf⟩ := am_bd hf
  refine g_setI (pc := 2) (in_12 hX (by omega)) fr_X12_122 dX12_slipped_2 (Option.some.inj hs1) ?_
  refine g_aload_n (pc := 5) 0 rfl dX12_slipped_5 rfl ?_
  refine g_aload_n (pc := 6) 0 rfl dX12_slipped_6 rfl ?_
  refine g_iload_n (pc := 7) 1 rfl dX12_slipped_7 rfl ?_
  refine g_iload_n (pc := 8) 2 rfl dX12_slipped_8 rfl ?_
  refine g_iload_n (pc := 9) 3 rfl dX12_slipped_9 rfl ?_
  refine g_iload (pc := 10) 4 rfl dX12_slipped_10 ?_
  refine g_iload (pc := 12) 5 rfl dX12_slipped_12 ?_
  refine g_i2l (pc := 14) dX12_slipped_14 ?_
  refine g_lconst (pc := 15) (v := 0) dX12_slipped_15 (by decide) ?_
  refine g_lconst (pc := 16) (v := 1) dX12_slipped_16 (by decide) ?_
  obtain ⟨p2, hp2, hf⟩ := am_bd hf
  refine g_cS (pc := 17) (As := [.long (Int32.toInt64 v5), .long 0, .long 1]) (st := [.int v4, .int v3, .int v2, .int v1, .ref (am_ad X 12 0), .ref (am_ad X 12 0)]) (st1 := [.int (am_b p2), .int v4, .int v3, .int v2, .int v1, .ref (am_ad X 12 0), .ref (am_ad X 12 0)]) mS_X12_isIn ln_X12_239 rfl (Nat.le_of_ble_eq_true rfl) (Nat.le_of_ble_eq_true rfl) (k_X12_isIn hX (Int32.toInt64 v5) 0 1 s1 hp2) dX12_slipped_17 rfl rfl ?_
  obtain ⟨p3, hp3, hf⟩ := am_bd hf
  refine g_cV (pc := 20) (As := [.int v1, .int v2, .int v3, .int v4, .int (am_b p2)]) (st := [.ref (am_ad X 12 0)]) (st1 := [.int p3, .ref (am_ad X 12 0)]) (in_12 hX (by omega)) kk_12 mV_X12_asksGauge ln_X12_428 rfl (Nat.le_of_ble_eq_true rfl) (Nat.le_of_ble_eq_true rfl) (k_X12_asksGauge hX v1 v2 v3 v4 p2 s1 hp3) dX12_slipped_20 rfl rfl ?_
  obtain ⟨s4, hs4, hf⟩ := am_bd hf
  refine g_setI (pc := 23) (in_12 hX (by omega)) fr_X12_125 dX12_slipped_23 (Option.some.inj hs4) ?_
  refine g_aload_n (pc := 26) 0 rfl dX12_slipped_26 rfl ?_
  refine g_getI (pc := 27) (in_12 hX (by omega)) fr_X12_125 dX12_slipped_27 ?_
  refine bz_le (pc := 30) 35 dX12_slipped_30 rfl (fun c5 => ?_) (fun c5 => ?_)
  · replace hf := am_ifT c5 hf
    refine g_iconst (pc := 33) (v := (-1)) dX12_slipped_33 (by decide) ?_
    have ho := Option.some.inj hf
    subst ho
    exact g_ireturn (pc := 34) (st := []) rfl dX12_slipped_34 hk
  replace hf := am_ifF c5 hf
  refine g_iconst (pc := 35) (v := 0) dX12_slipped_35 (by decide) ?_
  refine g_istore (pc := 36) [(6, .int 0), (0, .ref (am_ad X 12 0)), (1, .int v1), (2, .int v2), (3, .int v3), (4, .int v4), (5, .int v5)] dX12_slipped_36 (Nat.le_of_ble_eq_true rfl) rfl ?_
  refine g_iconst (pc := 38) (v := 0) dX12_slipped_38 (by decide) ?_
  refine g_istore (pc := 39) [(7, .int 0), (6, .int 0), (0, .ref (am_ad X 12 0)), (1, .int v1), (2, .int v2), (3, .int v3), (4, .int v4), (5, .int v5)] dX12_slipped_39 (Nat.le_of_ble_eq_true rfl) rfl ?_
  refine g_aload_n (pc := 41) 2 rfl dX12_slipped_41 rfl ?_
  refine g_iload_n (pc := 42) 3 rfl dX12_slipped_42 rfl ?_
  refine g_iload_n (pc := 43) 4 rfl dX12_slipped_43 rfl ?_
  refine g_iload_n (pc := 44) 5 rfl dX12_slipped_44 rfl ?_
  refine g_iload (pc := 45) 6 rfl dX12_slipped_45 ?_
  refine g_iconst (pc := 47) (v := 0) dX12_slipped_47 (by decide) ?_
  refine g_iconst (pc := 48) (v := 0) dX12_slipped_48 (by decide) ?_
  refine g_iconst (pc := 49) (v := 0) dX12_slipped_49 (by decide) ?_
  obtain ⟨p6, hp6, hf⟩ := am_bd hf
  refine g_cV (pc := 50) (As := [.int v1, .int v2, .int v3, .int v4, .int 0, .int 0, .int 0]) (st := []) (st1 := [.long p6]) (in_12 hX (by omega)) kk_12 mV_X12_differs ln_X12_441 rfl (Nat.le_of_ble_eq_true rfl) (Nat.le_of_ble_eq_true rfl) (k_X12_differs hX v1 v2 v3 v4 0 0 0 s4 hp6) dX12_slipped_50 rfl rfl ?_
  refine g_lstore (pc := 53) [(8, .long p6), (7, .int 0), (6, .int 0), (0, .ref (am_ad X 12 0)), (1, .int v1), (2, .int v2), (3, .int v3), (4, .int v4), (5, .int v5)] dX12_slipped_53 (Nat.le_of_ble_eq_true rfl) rfl ?_
  refine g_iload (pc := 55) 8 rfl dX12_slipped_55 ?_
  refine bz_ne (pc := 57) 64 dX12_slipped_57 rfl (fun c7 => ?_) (fun c7 => ?_)
  · replace hf := am_ifT c7 hf
    refine g_iconst (pc := 60) (v := 5) dX12_slipped_60 (by decide) ?_
    refine g_goto (pc := 61) 66 dX12_slipped_61 rfl ?_
    refine g_istore (pc := 66) [(10, .int 5), (8, .long p6), (7, .int 0), (6, .int 0), (0, .ref (am_ad X 12 0)), (1, .int v1), (2, .int v2), (3, .int v3), (4, .int v4), (5, .int v5)] dX12_slipped_66 (Nat.le_of_ble_eq_true rfl) rfl ?_
    refine g_iconst (pc := 68) (v := 1) dX12_slipped_68 (by decide) ?_
    refine g_istore (pc := 69) [(11, .int 1), (10, .int 5), (8, .long p6), (7, .int 0), (6, .int 0), (0, .ref (am_ad X 12 0)), (1, .int v1), (2, .int v2), (3, .int v3), (4, .int v4), (5, .int v5)] dX12_slipped_69 (Nat.le_of_ble_eq_true rfl) rfl ?_
    obtain ⟨w8, hw8, hf⟩ := am_bd hf
    refine am_sub [5, 6, 7, 8, 9, 10, 4, 3, 2, 1, 0] rfl (l_X12_slipped_71 hX v1 v2 v3 v4 v5 5  s4 (0, 0, p6, 1) hw8 ?_)
    intro t e
    subst e
    refine g_aload_n (pc := 182) 0 rfl dX12_slipped_182 rfl ?_
    refine g_iconst (pc := 183) (v := 1) dX12_slipped_183 (by decide) ?_
    obtain ⟨s9, hs9, hf⟩ := am_bd hf
    refine g_setZ (x := true) (pc := 184) (in_12 hX (by omega)) fr_X12_445 dX12_slipped_184 (Option.some.inj hs9) ?_
    refine g_aload_n (pc := 187) 0 rfl dX12_slipped_187 rfl ?_
    refine g_iload (pc := 188) 2 rfl dX12_slipped_188 ?_
    obtain ⟨s10, hs10, hf⟩ := am_bd hf
    refine g_setI (pc := 190) (in_12 hX (by omega)) fr_X12_448 dX12_slipped_190 (Option.some.inj hs10) ?_
    refine g_iload (pc := 193) 1 rfl dX12_slipped_193 ?_
    have ho := Option.some.inj hf
    subst ho
    exact g_ireturn (pc := 195) (st := []) rfl dX12_slipped_195 hk
  replace hf := am_ifF c7 hf
  refine g_bipush (pc := 64) (v := 50) dX12_slipped_64 (by decide) ?_
  refine g_istore (pc := 66) [(10, .int 50), (8, .long p6), (7, .int 0), (6, .int 0), (0, .ref (am_ad X 12 0)), (1, .int v1), (2, .int v2), (3, .int v3), (4, .int v4), (5, .int v5)] dX12_slipped_66 (Nat.le_of_ble_eq_true rfl) rfl ?_
  refine g_iconst (pc := 68) (v := 1) dX12_slipped_68 (by decide) ?_
  refine g_istore (pc := 69) [(11, .int 1), (10, .int 50), (8, .long p6), (7, .int 0), (6, .int 0), (0, .ref (am_ad X 12 0)), (1, .int v1), (2, .int v2), (3, .int v3), (4, .int v4), (5, .int v5)] dX12_slipped_69 (Nat.le_of_ble_eq_true rfl) rfl ?_
  obtain ⟨w11, hw11, hf⟩ := am_bd hf
  refine am_sub [5, 6, 7, 8, 9, 10, 4, 3, 2, 1, 0] rfl (l_X12_slipped_71 hX v1 v2 v3 v4 v5 50  s4 (0, 0, p6, 1) hw11 ?_)
  intro t e
  subst e
  refine g_aload_n (pc := 182) 0 rfl dX12_slipped_182 rfl ?_
  refine g_iconst (pc := 183) (v := 1) dX12_slipped_183 (by decide) ?_
  obtain ⟨s12, hs12, hf⟩ := am_bd hf
  refine g_setZ (x := true) (pc := 184) (in_12 hX (by omega)) fr_X12_445 dX12_slipped_184 (Option.some.inj hs12) ?_
  refine g_aload_n (pc := 187) 0 rfl dX12_slipped_187 rfl ?_
  refine g_iload (pc := 188) 2 rfl dX12_slipped_188 ?_
  obtain ⟨s13, hs13, hf⟩ := am_bd hf
  refine g_setI (pc := 190) (in_12 hX (by omega)) fr_X12_448 dX12_slipped_190 (Option.some.inj hs13) ?_
  refine g_iload (pc := 193) 1 rfl dX12_slipped_193 ?_
  have ho := Option.some.inj hf
  subst ho
  exact g_ireturn (pc := 195) (st := []) rfl dX12_slipped_195 hk
theorem k_X12_slipped {X : am_X} (hX : am_ks X = am_ksM) (v1 : Int32) (v2 : Int32) (v3 : Int32) (v4 : Int32) (v5 : Int32) (σ : am_H) {o : Int32 × am_H} (hf : f_X12_slipped v1 v2 v3 v4 v5 σ = some o) : am_C X gm_X12_slipped [.ref (am_ad X 12 0), .int v1, .int v2, .int v3, .int v4, .int v5] σ (am_is (some (.int o.1)) o.2) :=
  am_ofG rfl (Nat.le_of_ble_eq_true rfl) rfl (q_X12_slipped hX v1 v2 v3 v4 v5 σ hf ⟨rfl, rfl⟩)
theorem dX12_slip_0 : decode cX12_slip 0 = .ok (.aload_n 0, 1) := by decide +kernel
theorem dX12_slip_1 : decode cX12_slip 1 = .ok (.iconst 0, 1) := by decide +kernel
theorem dX12_slip_2 : decode cX12_slip 2 = .ok (.putfield 122, 3) := by decide +kernel
theorem dX12_slip_5 : decode cX12_slip 5 = .ok (.aload_n 0, 1) := by decide +kernel
theorem dX12_slip_6 : decode cX12_slip 6 = .ok (.iconst 0, 1) := by decide +kernel
theorem dX12_slip_7 : decode cX12_slip 7 = .ok (.putfield 125, 3) := by decide +kernel
theorem dX12_slip_10 : decode cX12_slip 10 = .ok (.aload_n 0, 1) := by decide +kernel
theorem dX12_slip_11 : decode cX12_slip 11 = .ok (.getfield 445, 3) := by decide +kernel
theorem dX12_slip_14 : decode cX12_slip 14 = .ok (.ifCond .eq 10, 3) := by decide +kernel
theorem dX12_slip_17 : decode cX12_slip 17 = .ok (.aload_n 0, 1) := by decide +kernel
theorem dX12_slip_18 : decode cX12_slip 18 = .ok (.getfield 448, 3) := by decide +kernel
theorem dX12_slip_21 : decode cX12_slip 21 = .ok (.goto 9, 3) := by decide +kernel
theorem dX12_slip_24 : decode cX12_slip 24 = .ok (.aload_n 0, 1) := by decide +kernel
theorem dX12_slip_25 : decode cX12_slip 25 = .ok (.bipush 8, 2) := by decide +kernel
theorem dX12_slip_27 : decode cX12_slip 27 = .ok (.invokevirtual 283, 3) := by decide +kernel
theorem dX12_slip_30 : decode cX12_slip 30 = .ok (.ireturn, 1) := by decide +kernel
noncomputable def f_X12_slip (σ : am_H) : Option (Int32 × am_H) :=
  (some (am_wI σ 12 0 1 0)).bind fun s1 =>
  (some (am_wI s1 12 0 0 0)).bind fun s2 =>
  if (s2.1 12 0 37) = 0 then
   ((f_X12_refuse 8 s2).bind fun p4 =>
   some (p4.1, p4.2))
  else
  some ((s2.1 12 0 31), s2)
set_option maxRecDepth 100000 in
set_option maxHeartbeats 4000000 in
theorem q_X12_slip {X : am_X} (hX : am_ks X = am_ksM) {Q : Option Value → am_H → Prop} (σ : am_H) {o : Int32 × am_H} (hf : f_X12_slip σ = some o) (hk : Q (some (.int o.1)) o.2) : am_G X gm_X12_slip Q 0 [(0, .ref (am_ad X 12 0))] [] σ := by
  unfold f_X12_slip at hf
  refine g_aload_n (pc := 0) 0 rfl dX12_slip_0 rfl ?_
  refine g_iconst (pc := 1) (v := 0) dX12_slip_1 (by decide) ?_
  obtain ⟨s1, hs1, hf⟩ := am_bd hf
  refine g_setI (pc := 2) (in_12 hX (by omega)) fr_X12_122 dX12_slip_2 (Option.some.inj hs1) ?_
  refine g_aload_n (pc := 5) 0 rfl dX12_slip_5 rfl ?_
  refine g_iconst (pc := 6) (v := 0) dX12_slip_6 (by decide) ?_
  obtain ⟨s2, hs2, hf⟩ := am_bd hf
  refine g_setI (pc := 7) (in_12 hX (by omega)) fr_X12_125 dX12_slip_7 (Option.some.inj hs2) ?_
  refine g_aload_n (pc := 10) 0 rfl dX12_slip_10 rfl ?_
  refine g_getZ (pc := 11) (in_12 hX (by omega)) fr_X12_445 dX12_slip_11 ?_
  refine bz_eq (pc := 14) 24 dX12_slip_14 rfl (fun c3 => ?_) (fun c3 => ?_)
  · replace hf := am_ifT c3 hf
    refine g_aload_n (pc := 24) 0 rfl dX12_slip_24 rfl ?_
    refine g_bipush (pc := 25) (v := 8) dX12_slip_25 (by decide) ?_
    obtain ⟨p4, hp4, hf⟩ := am_bd hf
    refine g_cV (pc := 27) (As := [.int 8]) (st := []) (st1 := [.int p4.1]) (in_12 hX (by omega)) kk_12 mV_X12_refuse ln_X12_283 rfl (Nat.le_of_ble_eq_true rfl) (Nat.le_of_ble_eq_true rfl) (k_X12_refuse hX 8 s2 hp4) dX12_slip_27 rfl rfl ?_
    have ho := Option.some.inj hf
    subst ho
    exact g_ireturn (pc := 30) (st := []) rfl dX12_slip_30 hk
  replace hf := am_ifF c3 hf
  refine g_aload_n (pc := 17) 0 rfl dX12_slip_17 rfl ?_
  refine g_getI (pc := 18) (in_12 hX (by omega)) fr_X12_448 dX12_slip_18 ?_
  refine g_goto (pc := 21) 30 dX12_slip_21 rfl ?_
  have ho := Option.some.inj hf
  subst ho
  exact g_ireturn (pc := 30) (st := []) rfl dX12_slip_30 hk
theorem k_X12_slip {X : am_X} (hX : am_ks X = am_ksM) (σ : am_H) {o : Int32 × am_H} (hf : f_X12_slip σ = some o) : am_C X gm_X12_slip [.ref (am_ad X 12 0)] σ (am_is (some (.int o.1)) o.2) :=
  am_ofG rfl (Nat.le_of_ble_eq_true rfl) rfl (q_X12_slip hX σ hf ⟨rfl, rfl⟩)
theorem dX12_there_0 : decode cX12_there 0 = .ok (.lconst 0, 1) := by decide +kernel
theorem dX12_there_1 : decode cX12_there 1 = .ok (.lstore 7, 2) := by decide +kernel
theorem dX12_there_3 : decode cX12_there 3 = .ok (.iconst 0, 1) := by decide +kernel
theorem dX12_there_4 : decode cX12_there 4 = .ok (.istore 9, 2) := by decide +kernel
theorem dX12_there_6 : decode cX12_there 6 = .ok (.iload 9, 2) := by decide +kernel
theorem dX12_there_8 : decode cX12_there 8 = .ok (.iload 4, 2) := by decide +kernel
theorem dX12_there_10 : decode cX12_there 10 = .ok (.if_icmp .ge 115, 3) := by decide +kernel
theorem dX12_there_13 : decode cX12_there 13 = .ok (.aload_n 0, 1) := by decide +kernel
theorem dX12_there_14 : decode cX12_there 14 = .ok (.iload_n 3, 1) := by decide +kernel
theorem dX12_there_15 : decode cX12_there 15 = .ok (.iload 9, 2) := by decide +kernel
theorem dX12_there_17 : decode cX12_there 17 = .ok (.invokevirtual 394, 3) := by decide +kernel
theorem dX12_there_20 : decode cX12_there 20 = .ok (.ldc2_w 400, 3) := by decide +kernel
theorem dX12_there_23 : decode cX12_there 23 = .ok (.lcmp, 1) := by decide +kernel
theorem dX12_there_24 : decode cX12_there 24 = .ok (.ifCond .ne 6, 3) := by decide +kernel
theorem dX12_there_27 : decode cX12_there 27 = .ok (.goto 92, 3) := by decide +kernel
theorem dX12_there_30 : decode cX12_there 30 = .ok (.iconst 0, 1) := by decide +kernel
theorem dX12_there_31 : decode cX12_there 31 = .ok (.istore 10, 2) := by decide +kernel
theorem dX12_there_33 : decode cX12_there 33 = .ok (.iconst 0, 1) := by decide +kernel
theorem dX12_there_34 : decode cX12_there 34 = .ok (.istore 11, 2) := by decide +kernel
theorem dX12_there_36 : decode cX12_there 36 = .ok (.iload 11, 2) := by decide +kernel
theorem dX12_there_38 : decode cX12_there 38 = .ok (.aload_n 0, 1) := by decide +kernel
theorem dX12_there_39 : decode cX12_there 39 = .ok (.getfield 35, 3) := by decide +kernel
theorem dX12_there_42 : decode cX12_there 42 = .ok (.iload_n 1, 1) := by decide +kernel
theorem dX12_there_43 : decode cX12_there 43 = .ok (.iaload, 1) := by decide +kernel
theorem dX12_there_44 : decode cX12_there 44 = .ok (.if_icmp .ge 49, 3) := by decide +kernel
theorem dX12_there_47 : decode cX12_there 47 = .ok (.iload 10, 2) := by decide +kernel
theorem dX12_there_49 : decode cX12_there 49 = .ok (.aload_n 0, 1) := by decide +kernel
theorem dX12_there_50 : decode cX12_there 50 = .ok (.iload_n 1, 1) := by decide +kernel
theorem dX12_there_51 : decode cX12_there 51 = .ok (.iload 11, 2) := by decide +kernel
theorem dX12_there_53 : decode cX12_there 53 = .ok (.iconst 2, 1) := by decide +kernel
theorem dX12_there_54 : decode cX12_there 54 = .ok (.invokevirtual 297, 3) := by decide +kernel
theorem dX12_there_57 : decode cX12_there 57 = .ok (.aload_n 0, 1) := by decide +kernel
theorem dX12_there_58 : decode cX12_there 58 = .ok (.iload_n 1, 1) := by decide +kernel
theorem dX12_there_59 : decode cX12_there 59 = .ok (.iload 11, 2) := by decide +kernel
theorem dX12_there_61 : decode cX12_there 61 = .ok (.aload_n 0, 1) := by decide +kernel
theorem dX12_there_62 : decode cX12_there 62 = .ok (.iload_n 2, 1) := by decide +kernel
theorem dX12_there_63 : decode cX12_there 63 = .ok (.iload 9, 2) := by decide +kernel
theorem dX12_there_65 : decode cX12_there 65 = .ok (.invokevirtual 408, 3) := by decide +kernel
theorem dX12_there_68 : decode cX12_there 68 = .ok (.invokevirtual 321, 3) := by decide +kernel
theorem dX12_there_71 : decode cX12_there 71 = .ok (.bipush 24, 2) := by decide +kernel
theorem dX12_there_73 : decode cX12_there 73 = .ok (.iadd, 1) := by decide +kernel
theorem dX12_there_74 : decode cX12_there 74 = .ok (.iload 6, 2) := by decide +kernel
theorem dX12_there_76 : decode cX12_there 76 = .ok (.isub, 1) := by decide +kernel
theorem dX12_there_77 : decode cX12_there 77 = .ok (.bipush 24, 2) := by decide +kernel
theorem dX12_there_79 : decode cX12_there 79 = .ok (.irem, 1) := by decide +kernel
theorem dX12_there_80 : decode cX12_there 80 = .ok (.invokestatic 313, 3) := by decide +kernel
theorem dX12_there_83 : decode cX12_there 83 = .ok (.imul, 1) := by decide +kernel
theorem dX12_there_84 : decode cX12_there 84 = .ok (.iadd, 1) := by decide +kernel
theorem dX12_there_85 : decode cX12_there 85 = .ok (.istore 10, 2) := by decide +kernel
theorem dX12_there_87 : decode cX12_there 87 = .ok (.iinc 11 1, 3) := by decide +kernel
theorem dX12_there_90 : decode cX12_there 90 = .ok (.goto (-54), 3) := by decide +kernel
theorem dX12_there_93 : decode cX12_there 93 = .ok (.lload 7, 2) := by decide +kernel
theorem dX12_there_95 : decode cX12_there 95 = .ok (.aload_n 0, 1) := by decide +kernel
theorem dX12_there_96 : decode cX12_there 96 = .ok (.iload_n 3, 1) := by decide +kernel
theorem dX12_there_97 : decode cX12_there 97 = .ok (.iload 9, 2) := by decide +kernel
theorem dX12_there_99 : decode cX12_there 99 = .ok (.invokevirtual 394, 3) := by decide +kernel
theorem dX12_there_102 : decode cX12_there 102 = .ok (.iload 10, 2) := by decide +kernel
theorem dX12_there_104 : decode cX12_there 104 = .ok (.iload 5, 2) := by decide +kernel
theorem dX12_there_106 : decode cX12_there 106 = .ok (.imul, 1) := by decide +kernel
theorem dX12_there_107 : decode cX12_there 107 = .ok (.sipush 144, 3) := by decide +kernel
theorem dX12_there_110 : decode cX12_there 110 = .ok (.idiv, 1) := by decide +kernel
theorem dX12_there_111 : decode cX12_there 111 = .ok (.i2l, 1) := by decide +kernel
theorem dX12_there_112 : decode cX12_there 112 = .ok (.lsub, 1) := by decide +kernel
theorem dX12_there_113 : decode cX12_there 113 = .ok (.invokestatic 131, 3) := by decide +kernel
theorem dX12_there_116 : decode cX12_there 116 = .ok (.ladd, 1) := by decide +kernel
theorem dX12_there_117 : decode cX12_there 117 = .ok (.lstore 7, 2) := by decide +kernel
theorem dX12_there_119 : decode cX12_there 119 = .ok (.iinc 9 1, 3) := by decide +kernel
theorem dX12_there_122 : decode cX12_there 122 = .ok (.goto (-116), 3) := by decide +kernel
theorem dX12_there_125 : decode cX12_there 125 = .ok (.lload 7, 2) := by decide +kernel
theorem dX12_there_127 : decode cX12_there 127 = .ok (.lreturn, 1) := by decide +kernel
noncomputable def f_X12_there_36 (v1 : Int32) (v2 : Int32) (v3 : Int32) (v4 : Int32) (v5 : Int32) (v6 : Int32) (v7 : Int64) (v9 : Int32) (v10 : Int32) (v11 : Int32) (σ : am_H) : Option ((Int32 × Int32) ⊕ (Int32)) :=
  (am_ix 3 v1).bind fun j1 =>
  if v11 < (σ.1 1320 0 j1) then
   ((f_X12_of v1 v11 2 σ).bind fun p3 =>
   (f_X12_hourOf v2 v9 σ).bind fun p4 =>
   (f_X12_truePlace v1 v11 p4 σ).bind fun p5 =>
   (f_X12_cosine (am_iR ((p5 + 24) - v6) 24) σ).bind fun p6 =>
   some (.inl ((v10 + (p3 * p6)), (v11 + 1))))
  else
  some (.inr v10)
set_option maxRecDepth 100000 in
set_option maxHeartbeats 4000000 in
theorem q_X12_there_36 {X : am_X} (hX : am_ks X = am_ksM) {Q : Option Value → am_H → Prop} (v1 : Int32) (v2 : Int32) (v3 : Int32) (v4 : Int32) (v5 : Int32) (v6 : Int32) (v7 : Int64) (v9 : Int32) (v10 : Int32) (v11 : Int32) (σ : am_H) {o : (Int32 × Int32) ⊕ (Int32)} (hf : f_X12_there_36 v1 v2 v3 v4 v5 v6 v7 v9 v10 v11 σ = some o) (hk0 : ∀ s, o = .inl s → am_G X gm_X12_there Q 36 [(0, .ref (am_ad X 12 0)), (1, .int v1), (2, .int v2), (3, .int v3), (4, .int v4), (5, .int v5), (6, .int v6), (7, .long v7), (9, .int v9), (10, .int s.1), (11, .int s.2)] [] σ) (hk1 : ∀ t, o = .inr t → am_G X gm_X12_there Q 93 [(0, .ref (am_ad X 12 0)), (1, .int v1), (2, .int v2), (3, .int v3), (4, .int v4), (5, .int v5), (6, .int v6), (7, .long v7), (9, .int v9), (10, .int t)] [] σ) : am_G X gm_X12_there Q 36 [(0, .ref (am_ad X 12 0)), (1, .int v1), (2, .int v2), (3, .int v3), (4, .int v4), (5, .int v5), (6, .int v6), (7, .long v7), (9, .int v9), (10, .int v10), (11, .int v11)] [] σ := by
  unfold f_X12_there_36 at hf
  refine g_iload (pc := 36) 10 rfl dX12_there_36 ?_
  refine g_aload_n (pc := 38) 0 rfl dX12_there_38 rfl ?_
  refine g_getC (pc := 39) (e := 0) (in_12 hX (by omega)) fr_X12_35 dX12_there_39 rfl ?_
  refine g_iload_n (pc := 42) 1 rfl dX12_there_42 rfl ?_
  obtain ⟨j1, hj1, hf⟩ := am_bd hf
  have gj1 := am_ix_lt hj1
  refine g_aI (pc := 43) (in_1320 hX (by omega)) ak_1320 hj1 dX12_there_43 ?_
  refine bi_ge (pc := 44) 93 dX12_there_44 rfl (fun c2 => ?_) (fun c2 => ?_)
  · replace hf := am_ifT c2 hf
    refine g_iload (pc := 47) 9 rfl dX12_there_47 ?_
    refine g_aload_n (pc := 49) 0 rfl dX12_there_49 rfl ?_
    refine g_iload_n (pc := 50) 1 rfl dX12_there_50 rfl ?_
    refine g_iload (pc := 51) 10 rfl dX12_there_51 ?_
    refine g_iconst (pc := 53) (v := 2) dX12_there_53 (by decide) ?_
    obtain ⟨p3, hp3, hf⟩ := am_bd hf
    refine g_cV (pc := 54) (As := [.int v1, .int v11, .int 2]) (st := [.int v10]) (st1 := [.int p3, .int v10]) (in_12 hX (by omega)) kk_12 mV_X12_of ln_X12_297 rfl (Nat.le_of_ble_eq_true rfl) (Nat.le_of_ble_eq_true rfl) (k_X12_of hX v1 v11 2 σ hp3) dX12_there_54 rfl rfl ?_
    refine g_aload_n (pc := 57) 0 rfl dX12_there_57 rfl ?_
    refine g_iload_n (pc := 58) 1 rfl dX12_there_58 rfl ?_
    refine g_iload (pc := 59) 10 rfl dX12_there_59 ?_
    refine g_aload_n (pc := 61) 0 rfl dX12_there_61 rfl ?_
    refine g_iload_n (pc := 62) 2 rfl dX12_there_62 rfl ?_
    refine g_iload (pc := 63) 8 rfl dX12_there_63 ?_
    obtain ⟨p4, hp4, hf⟩ := am_bd hf
    refine g_cV (pc := 65) (As := [.int v2, .int v9]) (st := [.int v11, .int v1, .ref (am_ad X 12 0), .int p3, .int v10]) (st1 := [.int p4, .int v11, .int v1, .ref (am_ad X 12 0), .int p3, .int v10]) (in_12 hX (by omega)) kk_12 mV_X12_hourOf ln_X12_408 rfl (Nat.le_of_ble_eq_true rfl) (Nat.le_of_ble_eq_true rfl) (k_X12_hourOf hX v2 v9 σ hp4) dX12_there_65 rfl rfl ?_
    obtain ⟨p5, hp5, hf⟩ := am_bd hf
    refine g_cV (pc := 68) (As := [.int v1, .int v11, .int p4]) (st := [.int p3, .int v10]) (st1 := [.int p5, .int p3, .int v10]) (in_12 hX (by omega)) kk_12 mV_X12_truePlace ln_X12_321 rfl (Nat.le_of_ble_eq_true rfl) (Nat.le_of_ble_eq_true rfl) (k_X12_truePlace hX v1 v11 p4 σ hp5) dX12_there_68 rfl rfl ?_
    refine g_bipush (pc := 71) (v := 24) dX12_there_71 (by decide) ?_
    refine g_iadd (pc := 73) dX12_there_73 ?_
    refine g_iload (pc := 74) 6 rfl dX12_there_74 ?_
    refine g_isub (pc := 76) dX12_there_76 ?_
    refine g_bipush (pc := 77) (v := 24) dX12_there_77 (by decide) ?_
    refine g_irem (pc := 79) dX12_there_79 (by decide) ?_
    obtain ⟨p6, hp6, hf⟩ := am_bd hf
    refine g_cS (pc := 80) (As := [.int (am_iR ((p5 + 24) - v6) 24)]) (st := [.int p3, .int v10]) (st1 := [.int p6, .int p3, .int v10]) mS_X12_cosine ln_X12_313 rfl (Nat.le_of_ble_eq_true rfl) (Nat.le_of_ble_eq_true rfl) (k_X12_cosine hX (am_iR ((p5 + 24) - v6) 24) σ hp6) dX12_there_80 rfl rfl ?_
    refine g_imul (pc := 83) dX12_there_83 ?_
    refine g_iadd (pc := 84) dX12_there_84 ?_
    refine g_istore (pc := 85) [(10, .int (v10 + (p3 * p6))), (0, .ref (am_ad X 12 0)), (1, .int v1), (2, .int v2), (3, .int v3), (4, .int v4), (5, .int v5), (6, .int v6), (7, .long v7), (9, .int v9), (11, .int v11)] dX12_there_85 (Nat.le_of_ble_eq_true rfl) rfl ?_
    refine g_iinc (pc := 87) (v := (v11 + 1)) 10 [(11, .int (v11 + 1)), (10, .int (v10 + (p3 * p6))), (0, .ref (am_ad X 12 0)), (1, .int v1), (2, .int v2), (3, .int v3), (4, .int v4), (5, .int v5), (6, .int v6), (7, .long v7), (9, .int v9)] dX12_there_87 rfl rfl (Nat.le_of_ble_eq_true rfl) rfl ?_
    refine g_goto (pc := 90) 36 dX12_there_90 rfl ?_
    have hz := hk0 _ (Option.some.inj hf).symm
    exact am_sub [2, 3, 4, 5, 6, 7, 8, 9, 10, 1, 0] rfl hz
  replace hf := am_ifF c2 hf
  have hz := hk1 _ (Option.some.inj hf).symm
  exact am_sub [0, 1, 2, 3, 4, 5, 6, 7, 8, 9] rfl hz
set_option maxRecDepth 100000 in
set_option maxHeartbeats 4000000 in
theorem l_X12_there_36 {X : am_X} (hX : am_ks X = am_ksM) {Q : Option Value → am_H → Prop} (v1 : Int32) (v2 : Int32) (v3 : Int32) (v4 : Int32) (v5 : Int32) (v6 : Int32) (v7 : Int64) (v9 : Int32) (σ : am_H) (s : Int32 × Int32) {o : Int32} (hf : am_loop (fun s => f_X12_there_36 v1 v2 v3 v4 v5 v6 v7 v9 s.1 s.2 σ) s = some o) (hk1 : ∀ t, o = t → am_G X gm_X12_there Q 93 [(0, .ref (am_ad X 12 0)), (1, .int v1), (2, .int v2), (3, .int v3), (4, .int v4), (5, .int v5), (6, .int v6), (7, .long v7), (9, .int v9), (10, .int t)] [] σ) : am_G X gm_X12_there Q 36 [(0, .ref (am_ad X 12 0)), (1, .int v1), (2, .int v2), (3, .int v3), (4, .int v4), (5, .int v5), (6, .int v6), (7, .long v7), (9, .int v9), (10, .int s.1), (11, .int s.2)] [] σ := by
  refine am_loop_ind (P := fun s => am_G X gm_X12_there Q 36 [(0, .ref (am_ad X 12 0)), (1, .int v1), (2, .int v2), (3, .int v3), (4, .int v4), (5, .int v5), (6, .int v6), (7, .long v7), (9, .int v9), (10, .int s.1), (11, .int s.2)] [] σ) (K := fun r => r = o) ?_ hf rfl
  intro s o1 hb hi hr
  exact q_X12_there_36 hX v1 v2 v3 v4 v5 v6 v7 v9 s.1 s.2  σ hb hi (fun t e => hk1 t (hr _ e).symm)
noncomputable def f_X12_there_6 (v1 : Int32) (v2 : Int32) (v3 : Int32) (v4 : Int32) (v5 : Int32) (v6 : Int32) (v7 : Int64) (v9 : Int32) (σ : am_H) : Option ((Int64 × Int32) ⊕ (Int64)) :=
  if v9 < v4 then
   ((f_X12_numberOf v3 v9 σ).bind fun p2 =>
   if p2 = 1000 then
    (some (.inl (v7, (v9 + 1))))
   else
   (am_loop (fun s => f_X12_there_36 v1 v2 v3 v4 v5 v6 v7 v9 s.1 s.2 σ) (0, 0)).bind fun w4 =>
   (f_X12_numberOf v3 v9 σ).bind fun p5 =>
   some (.inl ((v7 + (am_abL (p5 - (Int32.toInt64 ((w4 * v5) / 144))))), (v9 + 1))))
  else
  some (.inr v7)
set_option maxRecDepth 100000 in
set_option maxHeartbeats 4000000 in
theorem q_X12_there_6 {X : am_X} (hX : am_ks X = am_ksM) {Q : Option Value → am_H → Prop} (v1 : Int32) (v2 : Int32) (v3 : Int32) (v4 : Int32) (v5 : Int32) (v6 : Int32) (v7 : Int64) (v9 : Int32) (σ : am_H) {o : (Int64 × Int32) ⊕ (Int64)} (hf : f_X12_there_6 v1 v2 v3 v4 v5 v6 v7 v9 σ = some o) (hk0 : ∀ s, o = .inl s → am_G X gm_X12_there Q 6 [(0, .ref (am_ad X 12 0)), (1, .int v1), (2, .int v2), (3, .int v3), (4, .int v4), (5, .int v5), (6, .int v6), (7, .long s.1), (9, .int s.2)] [] σ) (hk1 : ∀ t, o = .inr t → am_G X gm_X12_there Q 125 [(7, .long t)] [] σ) : am_G X gm_X12_there Q 6 [(0, .ref (am_ad X 12 0)), (1, .int v1), (2, .int v2), (3, .int v3), (4, .int v4), (5, .int v5), (6, .int v6), (7, .long v7), (9, .int v9)] [] σ := by
  unfold f_X12_there_6 at hf
  refine g_iload (pc := 6) 8 rfl dX12_there_6 ?_
  refine g_iload (pc := 8) 4 rfl dX12_there_8 ?_
  refine bi_ge (pc := 10) 125 dX12_there_10 rfl (fun c1 => ?_) (fun c1 => ?_)
  · replace hf := am_ifT c1 hf
    refine g_aload_n (pc := 13) 0 rfl dX12_there_13 rfl ?_
    refine g_iload_n (pc := 14) 3 rfl dX12_there_14 rfl ?_
    refine g_iload (pc := 15) 8 rfl dX12_there_15 ?_
    obtain ⟨p2, hp2, hf⟩ := am_bd hf
    refine g_cV (pc := 17) (As := [.int v3, .int v9]) (st := []) (st1 := [.long p2]) (in_12 hX (by omega)) kk_12 mV_X12_numberOf ln_X12_394 rfl (Nat.le_of_ble_eq_true rfl) (Nat.le_of_ble_eq_true rfl) (k_X12_numberOf hX v3 v9 σ hp2) dX12_there_17 rfl rfl ?_
    refine g_ldc2 (pc := 20) (v := 1000) (tb_9 (List.mem_of_getElem? (i := 154) (by decide +kernel))) dX12_there_20 ?_
    refine g_lcm (pc := 23) dX12_there_23 ?_
    refine bl_ne (pc := 24) 30 dX12_there_24 rfl (fun c3 => ?_) (fun c3 => ?_)
    · replace hf := am_ifT c3 hf
      refine g_goto (pc := 27) 119 dX12_there_27 rfl ?_
      refine g_iinc (pc := 119) (v := (v9 + 1)) 8 [(9, .int (v9 + 1)), (0, .ref (am_ad X 12 0)), (1, .int v1), (2, .int v2), (3, .int v3), (4, .int v4), (5, .int v5), (6, .int v6), (7, .long v7)] dX12_there_119 rfl rfl (Nat.le_of_ble_eq_true rfl) rfl ?_
      refine g_goto (pc := 122) 6 dX12_there_122 rfl ?_
      have hz := hk0 _ (Option.some.inj hf).symm
      exact am_sub [1, 2, 3, 4, 5, 6, 7, 8, 0] rfl hz
    replace hf := am_ifF c3 hf
    refine g_iconst (pc := 30) (v := 0) dX12_there_30 (by decide) ?_
    refine g_istore (pc := 31) [(10, .int 0), (0, .ref (am_ad X 12 0)), (1, .int v1), (2, .int v2), (3, .int v3), (4, .int v4), (5, .int v5), (6, .int v6), (7, .long v7), (9, .int v9)] dX12_there_31 (Nat.le_of_ble_eq_true rfl) rfl ?_
    refine g_iconst (pc := 33) (v := 0) dX12_there_33 (by decide) ?_
    refine g_istore (pc := 34) [(11, .int 0), (10, .int 0), (0, .ref (am_ad X 12 0)), (1, .int v1), (2, .int v2), (3, .int v3), (4, .int v4), (5, .int v5), (6, .int v6), (7, .long v7), (9, .int v9)] dX12_there_34 (Nat.le_of_ble_eq_true rfl) rfl ?_
    obtain ⟨w4, hw4, hf⟩ := am_bd hf
    refine am_sub [2, 3, 4, 5, 6, 7, 8, 9, 10, 1, 0] rfl (l_X12_there_36 hX v1 v2 v3 v4 v5 v6 v7 v9  σ (0, 0) hw4 ?_)
    intro t e
    subst e
    refine g_lload (pc := 93) 7 rfl dX12_there_93 ?_
    refine g_aload_n (pc := 95) 0 rfl dX12_there_95 rfl ?_
    refine g_iload_n (pc := 96) 3 rfl dX12_there_96 rfl ?_
    refine g_iload (pc := 97) 8 rfl dX12_there_97 ?_
    obtain ⟨p5, hp5, hf⟩ := am_bd hf
    refine g_cV (pc := 99) (As := [.int v3, .int v9]) (st := [.long v7]) (st1 := [.long p5, .long v7]) (in_12 hX (by omega)) kk_12 mV_X12_numberOf ln_X12_394 rfl (Nat.le_of_ble_eq_true rfl) (Nat.le_of_ble_eq_true rfl) (k_X12_numberOf hX v3 v9 σ hp5) dX12_there_99 rfl rfl ?_
    refine g_iload (pc := 102) 9 rfl dX12_there_102 ?_
    refine g_iload (pc := 104) 5 rfl dX12_there_104 ?_
    refine g_imul (pc := 106) dX12_there_106 ?_
    refine g_sipush (pc := 107) (v := 144) dX12_there_107 (by decide) ?_
    refine g_idiv (pc := 110) dX12_there_110 (by decide) ?_
    refine g_i2l (pc := 111) dX12_there_111 ?_
    refine g_lsub (pc := 112) dX12_there_112 ?_
    refine g_mabsL (pc := 113) (Nat.le_of_ble_eq_true rfl) (Nat.le_of_ble_eq_true rfl) sp_X12_131 dX12_there_113 ?_
    refine g_ladd (pc := 116) dX12_there_116 ?_
    refine g_lstore (pc := 117) [(7, .long (v7 + (am_abL (p5 - (Int32.toInt64 ((w4 * v5) / 144)))))), (0, .ref (am_ad X 12 0)), (1, .int v1), (2, .int v2), (3, .int v3), (4, .int v4), (5, .int v5), (6, .int v6), (9, .int v9), (10, .int w4)] dX12_there_117 (Nat.le_of_ble_eq_true rfl) rfl ?_
    refine g_iinc (pc := 119) (v := (v9 + 1)) 8 [(9, .int (v9 + 1)), (7, .long (v7 + (am_abL (p5 - (Int32.toInt64 ((w4 * v5) / 144)))))), (0, .ref (am_ad X 12 0)), (1, .int v1), (2, .int v2), (3, .int v3), (4, .int v4), (5, .int v5), (6, .int v6), (10, .int w4)] dX12_there_119 rfl rfl (Nat.le_of_ble_eq_true rfl) rfl ?_
    refine g_goto (pc := 122) 6 dX12_there_122 rfl ?_
    have hz := hk0 _ (Option.some.inj hf).symm
    exact am_sub [2, 3, 4, 5, 6, 7, 8, 1, 0] rfl hz
  replace hf := am_ifF c1 hf
  have hz := hk1 _ (Option.some.inj hf).symm
  exact am_sub [7] rfl hz
set_option maxRecDepth 100000 in
set_option maxHeartbeats 4000000 in
theorem l_X12_there_6 {X : am_X} (hX : am_ks X = am_ksM) {Q : Option Value → am_H → Prop} (v1 : Int32) (v2 : Int32) (v3 : Int32) (v4 : Int32) (v5 : Int32) (v6 : Int32) (σ : am_H) (s : Int64 × Int32) {o : Int64} (hf : am_loop (fun s => f_X12_there_6 v1 v2 v3 v4 v5 v6 s.1 s.2 σ) s = some o) (hk1 : ∀ t, o = t → am_G X gm_X12_there Q 125 [(7, .long t)] [] σ) : am_G X gm_X12_there Q 6 [(0, .ref (am_ad X 12 0)), (1, .int v1), (2, .int v2), (3, .int v3), (4, .int v4), (5, .int v5), (6, .int v6), (7, .long s.1), (9, .int s.2)] [] σ := by
  refine am_loop_ind (P := fun s => am_G X gm_X12_there Q 6 [(0, .ref (am_ad X 12 0)), (1, .int v1), (2, .int v2), (3, .int v3), (4, .int v4), (5, .int v5), (6, .int v6), (7, .long s.1), (9, .int s.2)] [] σ) (K := fun r => r = o) ?_ hf rfl
  intro s o1 hb hi hr
  exact q_X12_there_6 hX v1 v2 v3 v4 v5 v6 s.1 s.2  σ hb hi (fun t e => hk1 t (hr _ e).symm)
noncomputable def f_X12_there (v1 : Int32) (v2 : Int32) (v3 : Int32) (v4 : Int32) (v5 : Int32) (v6 : Int32) (σ : am_H) : Option (Int64) :=
  (am_loop (fun s => f_X12_there_6 v1 v2 v3 v4 v5 v6 s.1 s.2 σ) (0, 0)).bind fun w1 =>
  some w1
set_option maxRecDepth 100000 in
set_option maxHeartbeats 4000000 in
theorem q_X12_there {X : am_X} (hX : am_ks X = am_ksM) {Q : Option Value → am_H → Prop} (v1 : Int32) (v2 : Int32) (v3 : Int32) (v4 : Int32) (v5 : Int32) (v6 : Int32) (σ : am_H) {o : Int64} (hf : f_X12_there v1 v2 v3 v4 v5 v6 σ = some o) (hk : Q (some (.long o)) σ) : am_G X gm_X12_there Q 0 [(0, .ref (am_ad X 12 0)), (1, .int v1), (2, .int v2), (3, .int v3), (4, .int v4), (5, .int v5), (6, .int v6)] [] σ := by
  unfold f_X12_there at hf
  refine g_lconst (pc := 0) (v := 0) dX12_there_0 (by decide) ?_
  refine g_lstore (pc := 1) [(7, .long 0), (0, .ref (am_ad X 12 0)), (1, .int v1), (2, .int v2), (3, .int v3), (4, .int v4), (5, .int v5), (6, .int v6)] dX12_there_1 (Nat.le_of_ble_eq_true rfl) rfl ?_
  refine g_iconst (pc := 3) (v := 0) dX12_there_3 (by decide) ?_
  refine g_istore (pc := 4) [(9, .int 0), (7, .long 0), (0, .ref (am_ad X 12 0)), (1, .int v1), (2, .int v2), (3, .int v3), (4, .int v4), (5, .int v5), (6, .int v6)] dX12_there_4 (Nat.le_of_ble_eq_true rfl) rfl ?_
  obtain ⟨w1, hw1, hf⟩ := am_bd hf
  refine am_sub [2, 3, 4, 5, 6, 7, 8, 1, 0] rfl (l_X12_there_6 hX v1 v2 v3 v4 v5 v6  σ (0, 0) hw1 ?_)
  intro t e
  subst e
  refine g_lload (pc := 125) 0 rfl dX12_there_125 ?_
  have ho := Option.some.inj hf
  subst ho
  exact g_lreturn (pc := 127) (st := []) rfl dX12_there_127 hk
theorem k_X12_there {X : am_X} (hX : am_ks X = am_ksM) (v1 : Int32) (v2 : Int32) (v3 : Int32) (v4 : Int32) (v5 : Int32) (v6 : Int32) (σ : am_H) {o : Int64} (hf : f_X12_there v1 v2 v3 v4 v5 v6 σ = some o) : am_C X gm_X12_there [.ref (am_ad X 12 0), .int v1, .int v2, .int v3, .int v4, .int v5, .int v6] σ (am_is (some (.long o)) σ) :=
  am_ofG rfl (Nat.le_of_ble_eq_true rfl) rfl (q_X12_there hX v1 v2 v3 v4 v5 v6 σ hf ⟨rfl, rfl⟩)
theorem dX12_neighbour_0 : decode cX12_neighbour 0 = .ok (.aload_n 0, 1) := by decide +kernel
theorem dX12_neighbour_1 : decode cX12_neighbour 1 = .ok (.iconst 0, 1) := by decide +kernel
theorem dX12_neighbour_2 : decode cX12_neighbour 2 = .ok (.putfield 122, 3) := by decide +kernel
theorem dX12_neighbour_5 : decode cX12_neighbour 5 = .ok (.aload_n 0, 1) := by decide +kernel
theorem dX12_neighbour_6 : decode cX12_neighbour 6 = .ok (.aload_n 0, 1) := by decide +kernel
theorem dX12_neighbour_7 : decode cX12_neighbour 7 = .ok (.iload_n 1, 1) := by decide +kernel
theorem dX12_neighbour_8 : decode cX12_neighbour 8 = .ok (.iload_n 2, 1) := by decide +kernel
theorem dX12_neighbour_9 : decode cX12_neighbour 9 = .ok (.iload_n 3, 1) := by decide +kernel
theorem dX12_neighbour_10 : decode cX12_neighbour 10 = .ok (.iload 4, 2) := by decide +kernel
theorem dX12_neighbour_12 : decode cX12_neighbour 12 = .ok (.iconst 1, 1) := by decide +kernel
theorem dX12_neighbour_13 : decode cX12_neighbour 13 = .ok (.invokevirtual 428, 3) := by decide +kernel
theorem dX12_neighbour_16 : decode cX12_neighbour 16 = .ok (.putfield 125, 3) := by decide +kernel
theorem dX12_neighbour_19 : decode cX12_neighbour 19 = .ok (.aload_n 0, 1) := by decide +kernel
theorem dX12_neighbour_20 : decode cX12_neighbour 20 = .ok (.getfield 125, 3) := by decide +kernel
theorem dX12_neighbour_23 : decode cX12_neighbour 23 = .ok (.ifCond .le 5, 3) := by decide +kernel
theorem dX12_neighbour_26 : decode cX12_neighbour 26 = .ok (.iconst (-1), 1) := by decide +kernel
theorem dX12_neighbour_27 : decode cX12_neighbour 27 = .ok (.ireturn, 1) := by decide +kernel
theorem dX12_neighbour_28 : decode cX12_neighbour 28 = .ok (.iconst 0, 1) := by decide +kernel
theorem dX12_neighbour_29 : decode cX12_neighbour 29 = .ok (.istore 5, 2) := by decide +kernel
theorem dX12_neighbour_31 : decode cX12_neighbour 31 = .ok (.ldc2_w 153, 3) := by decide +kernel
theorem dX12_neighbour_34 : decode cX12_neighbour 34 = .ok (.lstore 6, 2) := by decide +kernel
theorem dX12_neighbour_36 : decode cX12_neighbour 36 = .ok (.iconst 1, 1) := by decide +kernel
theorem dX12_neighbour_37 : decode cX12_neighbour 37 = .ok (.istore 8, 2) := by decide +kernel
theorem dX12_neighbour_39 : decode cX12_neighbour 39 = .ok (.iload 8, 2) := by decide +kernel
theorem dX12_neighbour_41 : decode cX12_neighbour 41 = .ok (.bipush 24, 2) := by decide +kernel
theorem dX12_neighbour_43 : decode cX12_neighbour 43 = .ok (.if_icmp .gt 72, 3) := by decide +kernel
theorem dX12_neighbour_46 : decode cX12_neighbour 46 = .ok (.iconst 0, 1) := by decide +kernel
theorem dX12_neighbour_47 : decode cX12_neighbour 47 = .ok (.istore 9, 2) := by decide +kernel
theorem dX12_neighbour_49 : decode cX12_neighbour 49 = .ok (.iload 9, 2) := by decide +kernel
theorem dX12_neighbour_51 : decode cX12_neighbour 51 = .ok (.bipush 24, 2) := by decide +kernel
theorem dX12_neighbour_53 : decode cX12_neighbour 53 = .ok (.if_icmp .ge 56, 3) := by decide +kernel
theorem dX12_neighbour_56 : decode cX12_neighbour 56 = .ok (.aload_n 0, 1) := by decide +kernel
theorem dX12_neighbour_57 : decode cX12_neighbour 57 = .ok (.iload_n 1, 1) := by decide +kernel
theorem dX12_neighbour_58 : decode cX12_neighbour 58 = .ok (.iload_n 2, 1) := by decide +kernel
theorem dX12_neighbour_59 : decode cX12_neighbour 59 = .ok (.iload_n 3, 1) := by decide +kernel
theorem dX12_neighbour_60 : decode cX12_neighbour 60 = .ok (.iload 4, 2) := by decide +kernel
theorem dX12_neighbour_62 : decode cX12_neighbour 62 = .ok (.iload 8, 2) := by decide +kernel
theorem dX12_neighbour_64 : decode cX12_neighbour 64 = .ok (.iload 9, 2) := by decide +kernel
theorem dX12_neighbour_66 : decode cX12_neighbour 66 = .ok (.invokevirtual 451, 3) := by decide +kernel
theorem dX12_neighbour_69 : decode cX12_neighbour 69 = .ok (.lstore 10, 2) := by decide +kernel
theorem dX12_neighbour_71 : decode cX12_neighbour 71 = .ok (.lload 6, 2) := by decide +kernel
theorem dX12_neighbour_73 : decode cX12_neighbour 73 = .ok (.lconst 0, 1) := by decide +kernel
theorem dX12_neighbour_74 : decode cX12_neighbour 74 = .ok (.lcmp, 1) := by decide +kernel
theorem dX12_neighbour_75 : decode cX12_neighbour 75 = .ok (.ifCond .lt 14, 3) := by decide +kernel
theorem dX12_neighbour_78 : decode cX12_neighbour 78 = .ok (.lload 10, 2) := by decide +kernel
theorem dX12_neighbour_80 : decode cX12_neighbour 80 = .ok (.lload 6, 2) := by decide +kernel
theorem dX12_neighbour_82 : decode cX12_neighbour 82 = .ok (.lcmp, 1) := by decide +kernel
theorem dX12_neighbour_83 : decode cX12_neighbour 83 = .ok (.ifCond .lt 6, 3) := by decide +kernel
theorem dX12_neighbour_86 : decode cX12_neighbour 86 = .ok (.goto 17, 3) := by decide +kernel
theorem dX12_neighbour_89 : decode cX12_neighbour 89 = .ok (.lload 10, 2) := by decide +kernel
theorem dX12_neighbour_91 : decode cX12_neighbour 91 = .ok (.lstore 6, 2) := by decide +kernel
theorem dX12_neighbour_93 : decode cX12_neighbour 93 = .ok (.iload 8, 2) := by decide +kernel
theorem dX12_neighbour_95 : decode cX12_neighbour 95 = .ok (.istore 5, 2) := by decide +kernel
theorem dX12_neighbour_97 : decode cX12_neighbour 97 = .ok (.aload_n 0, 1) := by decide +kernel
theorem dX12_neighbour_98 : decode cX12_neighbour 98 = .ok (.iload 9, 2) := by decide +kernel
theorem dX12_neighbour_100 : decode cX12_neighbour 100 = .ok (.putfield 455, 3) := by decide +kernel
theorem dX12_neighbour_103 : decode cX12_neighbour 103 = .ok (.iinc 9 1, 3) := by decide +kernel
theorem dX12_neighbour_106 : decode cX12_neighbour 106 = .ok (.goto (-57), 3) := by decide +kernel
theorem dX12_neighbour_109 : decode cX12_neighbour 109 = .ok (.iinc 8 1, 3) := by decide +kernel
theorem dX12_neighbour_112 : decode cX12_neighbour 112 = .ok (.goto (-73), 3) := by decide +kernel
theorem dX12_neighbour_115 : decode cX12_neighbour 115 = .ok (.aload_n 0, 1) := by decide +kernel
theorem dX12_neighbour_116 : decode cX12_neighbour 116 = .ok (.iconst 1, 1) := by decide +kernel
theorem dX12_neighbour_117 : decode cX12_neighbour 117 = .ok (.putfield 458, 3) := by decide +kernel
theorem dX12_neighbour_120 : decode cX12_neighbour 120 = .ok (.iload 5, 2) := by decide +kernel
theorem dX12_neighbour_122 : decode cX12_neighbour 122 = .ok (.ireturn, 1) := by decide +kernel
noncomputable def f_X12_neighbour_89 (v1 : Int32) (v2 : Int32) (v3 : Int32) (v4 : Int32) (v8 : Int32) (v9 : Int32) (v10 : Int64) (σ : am_H) : Option ((Int32 × Int64 × Int32 × am_H) ⊕ (Int32 × Int64 × am_H)) :=
  (some (am_wI σ 12 0 41 v9)).bind fun s1 =>
  some (.inl (v8, v10, (v9 + 1), s1))
set_option maxRecDepth 100000 in
set_option maxHeartbeats 4000000 in
theorem q_X12_neighbour_89 {X : am_X} (hX : am_ks X = am_ksM) {Q : Option Value → am_H → Prop} (v1 : Int32) (v2 : Int32) (v3 : Int32) (v4 : Int32) (v8 : Int32) (v9 : Int32) (v10 : Int64) (σ : am_H) {o : (Int32 × Int64 × Int32 × am_H) ⊕ (Int32 × Int64 × am_H)} (hf : f_X12_neighbour_89 v1 v2 v3 v4 v8 v9 v10 σ = some o) (hk0 : ∀ s, o = .inl s → am_G X gm_X12_neighbour Q 49 [(0, .ref (am_ad X 12 0)), (1, .int v1), (2, .int v2), (3, .int v3), (4, .int v4), (5, .int s.1), (6, .long s.2.1), (8, .int v8), (9, .int s.2.2.1)] [] s.2.2.2) (hk1 : ∀ t, o = .inr t → am_G X gm_X12_neighbour Q 109 [(0, .ref (am_ad X 12 0)), (1, .int v1), (2, .int v2), (3, .int v3), (4, .int v4), (5, .int t.1), (6, .long t.2.1), (8, .int v8)] [] t.2.2) : am_G X gm_X12_neighbour Q 89 [(0, .ref (am_ad X 12 0)), (1, .int v1), (2, .int v2), (3, .int v3), (4, .int v4), (8, .int v8), (9, .int v9), (10, .long v10)] [] σ := by
  unfold f_X12_neighbour_89 at hf
  refine g_lload (pc := 89) 7 rfl dX12_neighbour_89 ?_
  refine g_lstore (pc := 91) [(6, .long v10), (0, .ref (am_ad X 12 0)), (1, .int v1), (2, .int v2), (3, .int v3), (4, .int v4), (8, .int v8), (9, .int v9), (10, .long v10)] dX12_neighbour_91 (Nat.le_of_ble_eq_true rfl) rfl ?_
  refine g_iload (pc := 93) 6 rfl dX12_neighbour_93 ?_
  refine g_istore (pc := 95) [(5, .int v8), (6, .long v10), (0, .ref (am_ad X 12 0)), (1, .int v1), (2, .int v2), (3, .int v3), (4, .int v4), (8, .int v8), (9, .int v9), (10, .long v10)] dX12_neighbour_95 (Nat.le_of_ble_eq_true rfl) rfl ?_
  refine g_aload_n (pc := 97) 2 rfl dX12_neighbour_97 rfl ?_
  refine g_iload (pc := 98) 8 rfl dX12_neighbour_98 ?_
  obtain ⟨s1, hs1, hf⟩ := am_bd hf
  refine g_setI (pc := 100) (in_12 hX (by omega)) fr_X12_455 dX12_neighbour_100 (Option.some.inj hs1) ?_
  refine g_iinc (pc := 103) (v := (v9 + 1)) 8 [(9, .int (v9 + 1)), (5, .int v8), (6, .long v10), (0, .ref (am_ad X 12 0)), (1, .int v1), (2, .int v2), (3, .int v3), (4, .int v4), (8, .int v8), (10, .long v10)] dX12_neighbour_103 rfl rfl (Nat.le_of_ble_eq_true rfl) rfl ?_
  refine g_goto (pc := 106) 49 dX12_neighbour_106 rfl ?_
  have hz := hk0 _ (Option.some.inj hf).symm
  exact am_sub [3, 4, 5, 6, 7, 1, 2, 8, 0] rfl hz
noncomputable def f_X12_neighbour_49 (v1 : Int32) (v2 : Int32) (v3 : Int32) (v4 : Int32) (v5 : Int32) (v6 : Int64) (v8 : Int32) (v9 : Int32) (σ : am_H) : Option ((Int32 × Int64 × Int32 × am_H) ⊕ (Int32 × Int64 × am_H)) :=
  if v9 < 24 then
   ((f_X12_there v1 v2 v3 v4 v8 v9 σ).bind fun p2 =>
   if v6 < 0 then
    (f_X12_neighbour_89 v1 v2 v3 v4 v8 v9 p2 σ)
   else
   if p2 < v6 then
    (f_X12_neighbour_89 v1 v2 v3 v4 v8 v9 p2 σ)
   else
   some (.inl (v5, v6, (v9 + 1), σ)))
  else
  some (.inr (v5, v6, σ))
set_option maxRecDepth 100000 in
set_option maxHeartbeats 4000000 in
theorem q_X12_neighbour_49 {X : am_X} (hX : am_ks X = am_ksM) {Q : Option Value → am_H → Prop} (v1 : Int32) (v2 : Int32) (v3 : Int32) (v4 : Int32) (v5 : Int32) (v6 : Int64) (v8 : Int32) (v9 : Int32) (σ : am_H) {o : (Int32 × Int64 × Int32 × am_H) ⊕ (Int32 × Int64 × am_H)} (hf : f_X12_neighbour_49 v1 v2 v3 v4 v5 v6 v8 v9 σ = some o) (hk0 : ∀ s, o = .inl s → am_G X gm_X12_neighbour Q 49 [(0, .ref (am_ad X 12 0)), (1, .int v1), (2, .int v2), (3, .int v3), (4, .int v4), (5, .int s.1), (6, .long s.2.1), (8, .int v8), (9, .int s.2.2.1)] [] s.2.2.2) (hk1 : ∀ t, o = .inr t → am_G X gm_X12_neighbour Q 109 [(0, .ref (am_ad X 12 0)), (1, .int v1), (2, .int v2), (3, .int v3), (4, .int v4), (5, .int t.1), (6, .long t.2.1), (8, .int v8)] [] t.2.2) : am_G X gm_X12_neighbour Q 49 [(0, .ref (am_ad X 12 0)), (1, .int v1), (2, .int v2), (3, .int v3), (4, .int v4), (5, .int v5), (6, .long v6), (8, .int v8), (9, .int v9)] [] σ := by
  unfold f_X12_neighbour_49 at hf
  refine g_iload (pc := 49) 8 rfl dX12_neighbour_49 ?_
  refine g_bipush (pc := 51) (v := 24) dX12_neighbour_51 (by decide) ?_
  refine bi_ge (pc := 53) 109 dX12_neighbour_53 rfl (fun c1 => ?_) (fun c1 => ?_)
  · replace hf := am_ifT c1 hf
    refine g_aload_n (pc := 56) 0 rfl dX12_neighbour_56 rfl ?_
    refine g_iload_n (pc := 57) 1 rfl dX12_neighbour_57 rfl ?_
    refine g_iload_n (pc := 58) 2 rfl dX12_neighbour_58 rfl ?_
    refine g_iload_n (pc := 59) 3 rfl dX12_neighbour_59 rfl ?_
    refine g_iload (pc := 60) 4 rfl dX12_neighbour_60 ?_
    refine g_iload (pc := 62) 7 rfl dX12_neighbour_62 ?_
    refine g_iload (pc := 64) 8 rfl dX12_neighbour_64 ?_
    obtain ⟨p2, hp2, hf⟩ := am_bd hf
    refine g_cV (pc := 66) (As := [.int v1, .int v2, .int v3, .int v4, .int v8, .int v9]) (st := []) (st1 := [.long p2]) (in_12 hX (by omega)) kk_12 mV_X12_there ln_X12_451 rfl (Nat.le_of_ble_eq_true rfl) (Nat.le_of_ble_eq_true rfl) (k_X12_there hX v1 v2 v3 v4 v8 v9 σ hp2) dX12_neighbour_66 rfl rfl ?_
    refine g_lstore (pc := 69) [(10, .long p2), (0, .ref (am_ad X 12 0)), (1, .int v1), (2, .int v2), (3, .int v3), (4, .int v4), (5, .int v5), (6, .long v6), (8, .int v8), (9, .int v9)] dX12_neighbour_69 (Nat.le_of_ble_eq_true rfl) rfl ?_
    refine g_lload (pc := 71) 7 rfl dX12_neighbour_71 ?_
    refine g_lconst (pc := 73) (v := 0) dX12_neighbour_73 (by decide) ?_
    refine g_lcm (pc := 74) dX12_neighbour_74 ?_
    refine bl_lt (pc := 75) 89 dX12_neighbour_75 rfl (fun c3 => ?_) (fun c3 => ?_)
    · replace hf := am_ifT c3 hf
      exact am_sub [1, 2, 3, 4, 5, 8, 9, 0] rfl (q_X12_neighbour_89 hX v1 v2 v3 v4 v8 v9 p2 σ hf hk0 hk1)
    replace hf := am_ifF c3 hf
    refine g_lload (pc := 78) 0 rfl dX12_neighbour_78 ?_
    refine g_lload (pc := 80) 7 rfl dX12_neighbour_80 ?_
    refine g_lcm (pc := 82) dX12_neighbour_82 ?_
    refine bl_lt (pc := 83) 89 dX12_neighbour_83 rfl (fun c4 => ?_) (fun c4 => ?_)
    · replace hf := am_ifT c4 hf
      exact am_sub [1, 2, 3, 4, 5, 8, 9, 0] rfl (q_X12_neighbour_89 hX v1 v2 v3 v4 v8 v9 p2 σ hf hk0 hk1)
    replace hf := am_ifF c4 hf
    refine g_goto (pc := 86) 103 dX12_neighbour_86 rfl ?_
    refine g_iinc (pc := 103) (v := (v9 + 1)) 9 [(9, .int (v9 + 1)), (10, .long p2), (0, .ref (am_ad X 12 0)), (1, .int v1), (2, .int v2), (3, .int v3), (4, .int v4), (5, .int v5), (6, .long v6), (8, .int v8)] dX12_neighbour_103 rfl rfl (Nat.le_of_ble_eq_true rfl) rfl ?_
    refine g_goto (pc := 106) 49 dX12_neighbour_106 rfl ?_
    have hz := hk0 _ (Option.some.inj hf).symm
    exact am_sub [2, 3, 4, 5, 6, 7, 8, 9, 0] rfl hz
  replace hf := am_ifF c1 hf
  have hz := hk1 _ (Option.some.inj hf).symm
  exact am_sub [0, 1, 2, 3, 4, 5, 6, 7] rfl hz
set_option maxRecDepth 100000 in
set_option maxHeartbeats 4000000 in
theorem l_X12_neighbour_49 {X : am_X} (hX : am_ks X = am_ksM) {Q : Option Value → am_H → Prop} (v1 : Int32) (v2 : Int32) (v3 : Int32) (v4 : Int32) (v8 : Int32) (σ : am_H) (s : Int32 × Int64 × Int32 × am_H) {o : Int32 × Int64 × am_H} (hf : am_loop (fun s => f_X12_neighbour_49 v1 v2 v3 v4 s.1 s.2.1 v8 s.2.2.1 s.2.2.2) s = some o) (hk1 : ∀ t, o = t → am_G X gm_X12_neighbour Q 109 [(0, .ref (am_ad X 12 0)), (1, .int v1), (2, .int v2), (3, .int v3), (4, .int v4), (5, .int t.1), (6, .long t.2.1), (8, .int v8)] [] t.2.2) : am_G X gm_X12_neighbour Q 49 [(0, .ref (am_ad X 12 0)), (1, .int v1), (2, .int v2), (3, .int v3), (4, .int v4), (5, .int s.1), (6, .long s.2.1), (8, .int v8), (9, .int s.2.2.1)] [] s.2.2.2 := by
  refine am_loop_ind (P := fun s => am_G X gm_X12_neighbour Q 49 [(0, .ref (am_ad X 12 0)), (1, .int v1), (2, .int v2), (3, .int v3), (4, .int v4), (5, .int s.1), (6, .long s.2.1), (8, .int v8), (9, .int s.2.2.1)] [] s.2.2.2) (K := fun r => r = o) ?_ hf rfl
  intro s o1 hb hi hr
  exact q_X12_neighbour_49 hX v1 v2 v3 v4 s.1 s.2.1 v8 s.2.2.1  s.2.2.2 hb hi (fun t e => hk1 t (hr _ e).symm)
noncomputable def f_X12_neighbour_39 (v1 : Int32) (v2 : Int32) (v3 : Int32) (v4 : Int32) (v5 : Int32) (v6 : Int64) (v8 : Int32) (σ : am_H) : Option ((Int32 × Int64 × Int32 × am_H) ⊕ (Int32 × am_H)) :=
  if 24 < v8 then
   (some (.inr (v5, σ)))
  else
  (am_loop (fun s => f_X12_neighbour_49 v1 v2 v3 v4 s.1 s.2.1 v8 s.2.2.1 s.2.2.2) (v5, v6, 0, σ)).bind fun w2 =>
  some (.inl (w2.1, w2.2.1, (v8 + 1), w2.2.2))
set_option maxRecDepth 100000 in
set_option maxHeartbeats 4000000 in
theorem q_X12_neighbour_39 {X : am_X} (hX : am_ks X = am_ksM) {Q : Option Value → am_H → Prop} (v1 : Int32) (v2 : Int32) (v3 : Int32) (v4 : Int32) (v5 : Int32) (v6 : Int64) (v8 : Int32) (σ : am_H) {o : (Int32 × Int64 × Int32 × am_H) ⊕ (Int32 × am_H)} (hf : f_X12_neighbour_39 v1 v2 v3 v4 v5 v6 v8 σ = some o) (hk0 : ∀ s, o = .inl s → am_G X gm_X12_neighbour Q 39 [(0, .ref (am_ad X 12 0)), (1, .int v1), (2, .int v2), (3, .int v3), (4, .int v4), (5, .int s.1), (6, .long s.2.1), (8, .int s.2.2.1)] [] s.2.2.2) (hk1 : ∀ t, o = .inr t → am_G X gm_X12_neighbour Q 115 [(0, .ref (am_ad X 12 0)), (5, .int t.1)] [] t.2) : am_G X gm_X12_neighbour Q 39 [(0, .ref (am_ad X 12 0)), (1, .int v1), (2, .int v2), (3, .int v3), (4, .int v4), (5, .int v5), (6, .long v6), (8, .int v8)] [] σ := by
  unfold f_X12_neighbour_39 at hf
  refine g_iload (pc := 39) 7 rfl dX12_neighbour_39 ?_
  refine g_bipush (pc := 41) (v := 24) dX12_neighbour_41 (by decide) ?_
  refine bi_gt (pc := 43) 115 dX12_neighbour_43 rfl (fun c1 => ?_) (fun c1 => ?_)
  · replace hf := am_ifT c1 hf
    have hz := hk1 _ (Option.some.inj hf).symm
    exact am_sub [0, 5] rfl hz
  replace hf := am_ifF c1 hf
  refine g_iconst (pc := 46) (v := 0) dX12_neighbour_46 (by decide) ?_
  refine g_istore (pc := 47) [(9, .int 0), (0, .ref (am_ad X 12 0)), (1, .int v1), (2, .int v2), (3, .int v3), (4, .int v4), (5, .int v5), (6, .long v6), (8, .int v8)] dX12_neighbour_47 (Nat.le_of_ble_eq_true rfl) rfl ?_
  obtain ⟨w2, hw2, hf⟩ := am_bd hf
  refine am_sub [1, 2, 3, 4, 5, 6, 7, 8, 0] rfl (l_X12_neighbour_49 hX v1 v2 v3 v4 v8  σ (v5, v6, 0, σ) hw2 ?_)
  intro t e
  subst e
  refine g_iinc (pc := 109) (v := (v8 + 1)) 7 [(8, .int (v8 + 1)), (0, .ref (am_ad X 12 0)), (1, .int v1), (2, .int v2), (3, .int v3), (4, .int v4), (5, .int w2.1), (6, .long w2.2.1)] dX12_neighbour_109 rfl rfl (Nat.le_of_ble_eq_true rfl) rfl ?_
  refine g_goto (pc := 112) 39 dX12_neighbour_112 rfl ?_
  have hz := hk0 _ (Option.some.inj hf).symm
  exact am_sub [1, 2, 3, 4, 5, 6, 7, 0] rfl hz
set_option maxRecDepth 100000 in
set_option maxHeartbeats 4000000 in
theorem l_X12_neighbour_39 {X : am_X} (hX : am_ks X = am_ksM) {Q : Option Value → am_H → Prop} (v1 : Int32) (v2 : Int32) (v3 : Int32) (v4 : Int32) (σ : am_H) (s : Int32 × Int64 × Int32 × am_H) {o : Int32 × am_H} (hf : am_loop (fun s => f_X12_neighbour_39 v1 v2 v3 v4 s.1 s.2.1 s.2.2.1 s.2.2.2) s = some o) (hk1 : ∀ t, o = t → am_G X gm_X12_neighbour Q 115 [(0, .ref (am_ad X 12 0)), (5, .int t.1)] [] t.2) : am_G X gm_X12_neighbour Q 39 [(0, .ref (am_ad X 12 0)), (1, .int v1), (2, .int v2), (3, .int v3), (4, .int v4), (5, .int s.1), (6, .long s.2.1), (8, .int s.2.2.1)] [] s.2.2.2 := by
  refine am_loop_ind (P := fun s => am_G X gm_X12_neighbour Q 39 [(0, .ref (am_ad X 12 0)), (1, .int v1), (2, .int v2), (3, .int v3), (4, .int v4), (5, .int s.1), (6, .long s.2.1), (8, .int s.2.2.1)] [] s.2.2.2) (K := fun r => r = o) ?_ hf rfl
  intro s o1 hb hi hr
  exact q_X12_neighbour_39 hX v1 v2 v3 v4 s.1 s.2.1 s.2.2.1  s.2.2.2 hb hi (fun t e => hk1 t (hr _ e).symm)
noncomputable def f_X12_neighbour (v1 : Int32) (v2 : Int32) (v3 : Int32) (v4 : Int32) (σ : am_H) : Option (Int32 × am_H) :=
  (some (am_wI σ 12 0 1 0)).bind fun s1 =>
  (f_X12_asksGauge v1 v2 v3 v4 true s1).bind fun p2 =>
  (some (am_wI s1 12 0 0 p2)).bind fun s3 =>
  if 0 < (s3.1 12 0 0) then
   (some ((-1), s3))
  else
  (am_loop (fun s => f_X12_neighbour_39 v1 v2 v3 v4 s.1 s.2.1 s.2.2.1 s.2.2.2) (0, (-1), 1, s3)).bind fun w5 =>
  (some (am_wI w5.2 12 0 38 (am_b true))).bind fun s6 =>
  some (w5.1, s6)
set_option maxRecDepth 100000 in
set_option maxHeartbeats 4000000 in
theorem q_X12_neighbour {X : am_X} (hX : am_ks X = am_ksM) {Q : Option Value → am_H → Prop} (v1 : Int32) (v2 : Int32) (v3 : Int32) (v4 : Int32) (σ : am_H) {o : Int32 × am_H} (hf : f_X12_neighbour v1 v2 v3 v4 σ = some o) (hk : Q (some (.int o.1)) o.2) : am_G X gm_X12_neighbour Q 0 [(0, .ref (am_ad X 12 0)), (1, .int v1), (2, .int v2), (3, .int v3), (4, .int v4)] [] σ := by
  unfold f_X12_neighbour at hf
  refine g_aload_n (pc := 0) 0 rfl dX12_neighbour_0 rfl ?_
  refine g_iconst (pc := 1) (v := 0) dX12_neighbour_1 (by decide) ?_
  obtain ⟨s1, hs1, hf⟩ := am_bd hf
  refine g_setI (pc := 2) (in_12 hX (by omega)) fr_X12_122 dX12_neighbour_2 (Option.some.inj hs1) ?_
  refine g_aload_n (pc := 5) 0 rfl dX12_neighbour_5 rfl ?_
  refine g_aload_n (pc := 6) 0 rfl dX12_neighbour_6 rfl ?_
  refine g_iload_n (pc := 7) 1 rfl dX12_neighbour_7 rfl ?_
  refine g_iload_n (pc := 8) 2 rfl dX12_neighbour_8 rfl ?_
  refine g_iload_n (pc := 9) 3 rfl dX12_neighbour_9 rfl ?_
  refine g_iload (pc := 10) 4 rfl dX12_neighbour_10 ?_
  refine g_iconst (pc := 12) (v := 1) dX12_neighbour_12 (by decide) ?_
  obtain ⟨p2, hp2, hf⟩ := am_bd hf
  refine g_cV (pc := 13) (As := [.int v1, .int v2, .int v3, .int v4, .int (am_b true)]) (st := [.ref (am_ad X 12 0)]) (st1 := [.int p2, .ref (am_ad X 12 0)]) (in_12 hX (by omega)) kk_12 mV_X12_asksGauge ln_X12_428 rfl (Nat.le_of_ble_eq_true rfl) (Nat.le_of_ble_eq_true rfl) (k_X12_asksGauge hX v1 v2 v3 v4 true s1 hp2) dX12_neighbour_13 rfl rfl ?_
  obtain ⟨s3, hs3, hf⟩ := am_bd hf
  refine g_setI (pc := 16) (in_12 hX (by omega)) fr_X12_125 dX12_neighbour_16 (Option.some.inj hs3) ?_
  refine g_aload_n (pc := 19) 0 rfl dX12_neighbour_19 rfl ?_
  refine g_getI (pc := 20) (in_12 hX (by omega)) fr_X12_125 dX12_neighbour_20 ?_
  refine bz_le (pc := 23) 28 dX12_neighbour_23 rfl (fun c4 => ?_) (fun c4 => ?_)
  · replace hf := am_ifT c4 hf
    refine g_iconst (pc := 26) (v := (-1)) dX12_neighbour_26 (by decide) ?_
    have ho := Option.some.inj hf
    subst ho
    exact g_ireturn (pc := 27) (st := []) rfl dX12_neighbour_27 hk
  replace hf := am_ifF c4 hf
  refine g_iconst (pc := 28) (v := 0) dX12_neighbour_28 (by decide) ?_
  refine g_istore (pc := 29) [(5, .int 0), (0, .ref (am_ad X 12 0)), (1, .int v1), (2, .int v2), (3, .int v3), (4, .int v4)] dX12_neighbour_29 (Nat.le_of_ble_eq_true rfl) rfl ?_
  refine g_ldc2 (pc := 31) (v := (-1)) (tb_8 (List.mem_of_getElem? (i := 106) (by decide +kernel))) dX12_neighbour_31 ?_
  refine g_lstore (pc := 34) [(6, .long (-1)), (5, .int 0), (0, .ref (am_ad X 12 0)), (1, .int v1), (2, .int v2), (3, .int v3), (4, .int v4)] dX12_neighbour_34 (Nat.le_of_ble_eq_true rfl) rfl ?_
  refine g_iconst (pc := 36) (v := 1) dX12_neighbour_36 (by decide) ?_
  refine g_istore (pc := 37) [(8, .int 1), (6, .long (-1)), (5, .int 0), (0, .ref (am_ad X 12 0)), (1, .int v1), (2, .int v2), (3, .int v3), (4, .int v4)] dX12_neighbour_37 (Nat.le_of_ble_eq_true rfl) rfl ?_
  obtain ⟨w5, hw5, hf⟩ := am_bd hf
  refine am_sub [3, 4, 5, 6, 7, 2, 1, 0] rfl (l_X12_neighbour_39 hX v1 v2 v3 v4  s3 (0, (-1), 1, s3) hw5 ?_)
  intro t e
  subst e
  refine g_aload_n (pc := 115) 0 rfl dX12_neighbour_115 rfl ?_
  refine g_iconst (pc := 116) (v := 1) dX12_neighbour_116 (by decide) ?_
  obtain ⟨s6, hs6, hf⟩ := am_bd hf
  refine g_setZ (x := true) (pc := 117) (in_12 hX (by omega)) fr_X12_458 dX12_neighbour_117 (Option.some.inj hs6) ?_
  refine g_iload (pc := 120) 1 rfl dX12_neighbour_120 ?_
  have ho := Option.some.inj hf
  subst ho
  exact g_ireturn (pc := 122) (st := []) rfl dX12_neighbour_122 hk
theorem k_X12_neighbour {X : am_X} (hX : am_ks X = am_ksM) (v1 : Int32) (v2 : Int32) (v3 : Int32) (v4 : Int32) (σ : am_H) {o : Int32 × am_H} (hf : f_X12_neighbour v1 v2 v3 v4 σ = some o) : am_C X gm_X12_neighbour [.ref (am_ad X 12 0), .int v1, .int v2, .int v3, .int v4] σ (am_is (some (.int o.1)) o.2) :=
  am_ofG rfl (Nat.le_of_ble_eq_true rfl) rfl (q_X12_neighbour hX v1 v2 v3 v4 σ hf ⟨rfl, rfl⟩)
theorem dX12_lag_0 : decode cX12_lag 0 = .ok (.aload_n 0, 1) := by decide +kernel
theorem dX12_lag_1 : decode cX12_lag 1 = .ok (.iconst 0, 1) := by decide +kernel
theorem dX12_lag_2 : decode cX12_lag 2 = .ok (.putfield 122, 3) := by decide +kernel
theorem dX12_lag_5 : decode cX12_lag 5 = .ok (.aload_n 0, 1) := by decide +kernel
theorem dX12_lag_6 : decode cX12_lag 6 = .ok (.iconst 0, 1) := by decide +kernel
theorem dX12_lag_7 : decode cX12_lag 7 = .ok (.putfield 125, 3) := by decide +kernel
theorem dX12_lag_10 : decode cX12_lag 10 = .ok (.aload_n 0, 1) := by decide +kernel
theorem dX12_lag_11 : decode cX12_lag 11 = .ok (.getfield 458, 3) := by decide +kernel
theorem dX12_lag_14 : decode cX12_lag 14 = .ok (.ifCond .eq 10, 3) := by decide +kernel
theorem dX12_lag_17 : decode cX12_lag 17 = .ok (.aload_n 0, 1) := by decide +kernel
theorem dX12_lag_18 : decode cX12_lag 18 = .ok (.getfield 455, 3) := by decide +kernel
theorem dX12_lag_21 : decode cX12_lag 21 = .ok (.goto 9, 3) := by decide +kernel
theorem dX12_lag_24 : decode cX12_lag 24 = .ok (.aload_n 0, 1) := by decide +kernel
theorem dX12_lag_25 : decode cX12_lag 25 = .ok (.bipush 8, 2) := by decide +kernel
theorem dX12_lag_27 : decode cX12_lag 27 = .ok (.invokevirtual 283, 3) := by decide +kernel
theorem dX12_lag_30 : decode cX12_lag 30 = .ok (.ireturn, 1) := by decide +kernel
noncomputable def f_X12_lag (σ : am_H) : Option (Int32 × am_H) :=
  (some (am_wI σ 12 0 1 0)).bind fun s1 =>
  (some (am_wI s1 12 0 0 0)).bind fun s2 =>
  if (s2.1 12 0 38) = 0 then
   ((f_X12_refuse 8 s2).bind fun p4 =>
   some (p4.1, p4.2))
  else
  some ((s2.1 12 0 41), s2)
set_option maxRecDepth 100000 in
set_option maxHeartbeats 4000000 in
theorem q_X12_lag {X : am_X} (hX : am_ks X = am_ksM) {Q : Option Value → am_H → Prop} (σ : am_H) {o : Int32 × am_H} (hf : f_X12_lag σ = some o) (hk : Q (some (.int o.1)) o.2) : am_G X gm_X12_lag Q 0 [(0, .ref (am_ad X 12 0))] [] σ := by
  unfold f_X12_lag at hf
  refine g_aload_n (pc := 0) 0 rfl dX12_lag_0 rfl ?_
  refine g_iconst (pc := 1) (v := 0) dX12_lag_1 (by decide) ?_
  obtain ⟨s1, hs1, hf⟩ := am_bd hf
  refine g_setI (pc := 2) (in_12 hX (by omega)) fr_X12_122 dX12_lag_2 (Option.some.inj hs1) ?_
  refine g_aload_n (pc := 5) 0 rfl dX12_lag_5 rfl ?_
  refine g_iconst (pc := 6) (v := 0) dX12_lag_6 (by decide) ?_
  obtain ⟨s2, hs2, hf⟩ := am_bd hf
  refine g_setI (pc := 7) (in_12 hX (by omega)) fr_X12_125 dX12_lag_7 (Option.some.inj hs2) ?_
  refine g_aload_n (pc := 10) 0 rfl dX12_lag_10 rfl ?_
  refine g_getZ (pc := 11) (in_12 hX (by omega)) fr_X12_458 dX12_lag_11 ?_
  refine bz_eq (pc := 14) 24 dX12_lag_14 rfl (fun c3 => ?_) (fun c3 => ?_)
  · replace hf := am_ifT c3 hf
    refine g_aload_n (pc := 24) 0 rfl dX12_lag_24 rfl ?_
    refine g_bipush (pc := 25) (v := 8) dX12_lag_25 (by decide) ?_
    obtain ⟨p4, hp4, hf⟩ := am_bd hf
    refine g_cV (pc := 27) (As := [.int 8]) (st := []) (st1 := [.int p4.1]) (in_12 hX (by omega)) kk_12 mV_X12_refuse ln_X12_283 rfl (Nat.le_of_ble_eq_true rfl) (Nat.le_of_ble_eq_true rfl) (k_X12_refuse hX 8 s2 hp4) dX12_lag_27 rfl rfl ?_
    have ho := Option.some.inj hf
    subst ho
    exact g_ireturn (pc := 30) (st := []) rfl dX12_lag_30 hk
  replace hf := am_ifF c3 hf
  refine g_aload_n (pc := 17) 0 rfl dX12_lag_17 rfl ?_
  refine g_getI (pc := 18) (in_12 hX (by omega)) fr_X12_455 dX12_lag_18 ?_
  refine g_goto (pc := 21) 30 dX12_lag_21 rfl ?_
  have ho := Option.some.inj hf
  subst ho
  exact g_ireturn (pc := 30) (st := []) rfl dX12_lag_30 hk
theorem k_X12_lag {X : am_X} (hX : am_ks X = am_ksM) (σ : am_H) {o : Int32 × am_H} (hf : f_X12_lag σ = some o) : am_C X gm_X12_lag [.ref (am_ad X 12 0)] σ (am_is (some (.int o.1)) o.2) :=
  am_ofG rfl (Nat.le_of_ble_eq_true rfl) rfl (q_X12_lag hX σ hf ⟨rfl, rfl⟩)
theorem dX12_differsTurned_0 : decode cX12_differsTurned 0 = .ok (.lconst 0, 1) := by decide +kernel
theorem dX12_differsTurned_1 : decode cX12_differsTurned 1 = .ok (.lstore 5, 2) := by decide +kernel
theorem dX12_differsTurned_3 : decode cX12_differsTurned 3 = .ok (.iconst 0, 1) := by decide +kernel
theorem dX12_differsTurned_4 : decode cX12_differsTurned 4 = .ok (.istore 7, 2) := by decide +kernel
theorem dX12_differsTurned_6 : decode cX12_differsTurned 6 = .ok (.iload 7, 2) := by decide +kernel
theorem dX12_differsTurned_8 : decode cX12_differsTurned 8 = .ok (.iload 4, 2) := by decide +kernel
theorem dX12_differsTurned_10 : decode cX12_differsTurned 10 = .ok (.if_icmp .ge 56, 3) := by decide +kernel
theorem dX12_differsTurned_13 : decode cX12_differsTurned 13 = .ok (.aload_n 0, 1) := by decide +kernel
theorem dX12_differsTurned_14 : decode cX12_differsTurned 14 = .ok (.iload_n 3, 1) := by decide +kernel
theorem dX12_differsTurned_15 : decode cX12_differsTurned 15 = .ok (.iload 7, 2) := by decide +kernel
theorem dX12_differsTurned_17 : decode cX12_differsTurned 17 = .ok (.invokevirtual 394, 3) := by decide +kernel
theorem dX12_differsTurned_20 : decode cX12_differsTurned 20 = .ok (.ldc2_w 400, 3) := by decide +kernel
theorem dX12_differsTurned_23 : decode cX12_differsTurned 23 = .ok (.lcmp, 1) := by decide +kernel
theorem dX12_differsTurned_24 : decode cX12_differsTurned 24 = .ok (.ifCond .eq 36, 3) := by decide +kernel
theorem dX12_differsTurned_27 : decode cX12_differsTurned 27 = .ok (.lload 5, 2) := by decide +kernel
theorem dX12_differsTurned_29 : decode cX12_differsTurned 29 = .ok (.aload_n 0, 1) := by decide +kernel
theorem dX12_differsTurned_30 : decode cX12_differsTurned 30 = .ok (.iload_n 3, 1) := by decide +kernel
theorem dX12_differsTurned_31 : decode cX12_differsTurned 31 = .ok (.iload 7, 2) := by decide +kernel
theorem dX12_differsTurned_33 : decode cX12_differsTurned 33 = .ok (.invokevirtual 394, 3) := by decide +kernel
theorem dX12_differsTurned_36 : decode cX12_differsTurned 36 = .ok (.aload_n 0, 1) := by decide +kernel
theorem dX12_differsTurned_37 : decode cX12_differsTurned 37 = .ok (.iload_n 1, 1) := by decide +kernel
theorem dX12_differsTurned_38 : decode cX12_differsTurned 38 = .ok (.aload_n 0, 1) := by decide +kernel
theorem dX12_differsTurned_39 : decode cX12_differsTurned 39 = .ok (.iload_n 2, 1) := by decide +kernel
theorem dX12_differsTurned_40 : decode cX12_differsTurned 40 = .ok (.iload 7, 2) := by decide +kernel
theorem dX12_differsTurned_42 : decode cX12_differsTurned 42 = .ok (.invokevirtual 408, 3) := by decide +kernel
theorem dX12_differsTurned_45 : decode cX12_differsTurned 45 = .ok (.iconst 1, 1) := by decide +kernel
theorem dX12_differsTurned_46 : decode cX12_differsTurned 46 = .ok (.invokevirtual 334, 3) := by decide +kernel
theorem dX12_differsTurned_49 : decode cX12_differsTurned 49 = .ok (.bipush 12, 2) := by decide +kernel
theorem dX12_differsTurned_51 : decode cX12_differsTurned 51 = .ok (.idiv, 1) := by decide +kernel
theorem dX12_differsTurned_52 : decode cX12_differsTurned 52 = .ok (.i2l, 1) := by decide +kernel
theorem dX12_differsTurned_53 : decode cX12_differsTurned 53 = .ok (.lsub, 1) := by decide +kernel
theorem dX12_differsTurned_54 : decode cX12_differsTurned 54 = .ok (.invokestatic 131, 3) := by decide +kernel
theorem dX12_differsTurned_57 : decode cX12_differsTurned 57 = .ok (.ladd, 1) := by decide +kernel
theorem dX12_differsTurned_58 : decode cX12_differsTurned 58 = .ok (.lstore 5, 2) := by decide +kernel
theorem dX12_differsTurned_60 : decode cX12_differsTurned 60 = .ok (.iinc 7 1, 3) := by decide +kernel
theorem dX12_differsTurned_63 : decode cX12_differsTurned 63 = .ok (.goto (-57), 3) := by decide +kernel
theorem dX12_differsTurned_66 : decode cX12_differsTurned 66 = .ok (.lload 5, 2) := by decide +kernel
theorem dX12_differsTurned_68 : decode cX12_differsTurned 68 = .ok (.lreturn, 1) := by decide +kernel
noncomputable def f_X12_differsTurned_6 (v1 : Int32) (v2 : Int32) (v3 : Int32) (v4 : Int32) (v5 : Int64) (v7 : Int32) (σ : am_H) : Option ((Int64 × Int32) ⊕ (Int64)) :=
  if v7 < v4 then
   ((f_X12_numberOf v3 v7 σ).bind fun p2 =>
   if p2 = 1000 then
    (some (.inl (v5, (v7 + 1))))
   else
   (f_X12_numberOf v3 v7 σ).bind fun p4 =>
   (f_X12_hourOf v2 v7 σ).bind fun p5 =>
   (f_X12_heightOf v1 p5 true σ).bind fun p6 =>
   some (.inl ((v5 + (am_abL (p4 - (Int32.toInt64 (p6 / 12))))), (v7 + 1))))
  else
  some (.inr v5)
set_option maxRecDepth 100000 in
set_option maxHeartbeats 4000000 in
theorem q_X12_differsTurned_6 {X : am_X} (hX : am_ks X = am_ksM) {Q : Option Value → am_H → Prop} (v1 : Int32) (v2 : Int32) (v3 : Int32) (v4 : Int32) (v5 : Int64) (v7 : Int32) (σ : am_H) {o : (Int64 × Int32) ⊕ (Int64)} (hf : f_X12_differsTurned_6 v1 v2 v3 v4 v5 v7 σ = some o) (hk0 : ∀ s, o = .inl s → am_G X gm_X12_differsTurned Q 6 [(0, .ref (am_ad X 12 0)), (1, .int v1), (2, .int v2), (3, .int v3), (4, .int v4), (5, .long s.1), (7, .int s.2)] [] σ) (hk1 : ∀ t, o = .inr t → am_G X gm_X12_differsTurned Q 66 [(5, .long t)] [] σ) : am_G X gm_X12_differsTurned Q 6 [(0, .ref (am_ad X 12 0)), (1, .int v1), (2, .int v2), (3, .int v3), (4, .int v4), (5, .long v5), (7, .int v7)] [] σ := by
  unfold f_X12_differsTurned_6 at hf
  refine g_iload (pc := 6) 6 rfl dX12_differsTurned_6 ?_
  refine g_iload (pc := 8) 4 rfl dX12_differsTurned_8 ?_
  refine bi_ge (pc := 10) 66 dX12_differsTurned_10 rfl (fun c1 => ?_) (fun c1 => ?_)
  · replace hf := am_ifT c1 hf
    refine g_aload_n (pc := 13) 0 rfl dX12_differsTurned_13 rfl ?_
    refine g_iload_n (pc := 14) 3 rfl dX12_differsTurned_14 rfl ?_
    refine g_iload (pc := 15) 6 rfl dX12_differsTurned_15 ?_
    obtain ⟨p2, hp2, hf⟩ := am_bd hf
    refine g_cV (pc := 17) (As := [.int v3, .int v7]) (st := []) (st1 := [.long p2]) (in_12 hX (by omega)) kk_12 mV_X12_numberOf ln_X12_394 rfl (Nat.le_of_ble_eq_true rfl) (Nat.le_of_ble_eq_true rfl) (k_X12_numberOf hX v3 v7 σ hp2) dX12_differsTurned_17 rfl rfl ?_
    refine g_ldc2 (pc := 20) (v := 1000) (tb_9 (List.mem_of_getElem? (i := 154) (by decide +kernel))) dX12_differsTurned_20 ?_
    refine g_lcm (pc := 23) dX12_differsTurned_23 ?_
    refine bl_eq (pc := 24) 60 dX12_differsTurned_24 rfl (fun c3 => ?_) (fun c3 => ?_)
    · replace hf := am_ifT c3 hf
      refine g_iinc (pc := 60) (v := (v7 + 1)) 6 [(7, .int (v7 + 1)), (0, .ref (am_ad X 12 0)), (1, .int v1), (2, .int v2), (3, .int v3), (4, .int v4), (5, .long v5)] dX12_differsTurned_60 rfl rfl (Nat.le_of_ble_eq_true rfl) rfl ?_
      refine g_goto (pc := 63) 6 dX12_differsTurned_63 rfl ?_
      have hz := hk0 _ (Option.some.inj hf).symm
      exact am_sub [1, 2, 3, 4, 5, 6, 0] rfl hz
    replace hf := am_ifF c3 hf
    refine g_lload (pc := 27) 5 rfl dX12_differsTurned_27 ?_
    refine g_aload_n (pc := 29) 0 rfl dX12_differsTurned_29 rfl ?_
    refine g_iload_n (pc := 30) 3 rfl dX12_differsTurned_30 rfl ?_
    refine g_iload (pc := 31) 6 rfl dX12_differsTurned_31 ?_
    obtain ⟨p4, hp4, hf⟩ := am_bd hf
    refine g_cV (pc := 33) (As := [.int v3, .int v7]) (st := [.long v5]) (st1 := [.long p4, .long v5]) (in_12 hX (by omega)) kk_12 mV_X12_numberOf ln_X12_394 rfl (Nat.le_of_ble_eq_true rfl) (Nat.le_of_ble_eq_true rfl) (k_X12_numberOf hX v3 v7 σ hp4) dX12_differsTurned_33 rfl rfl ?_
    refine g_aload_n (pc := 36) 0 rfl dX12_differsTurned_36 rfl ?_
    refine g_iload_n (pc := 37) 1 rfl dX12_differsTurned_37 rfl ?_
    refine g_aload_n (pc := 38) 0 rfl dX12_differsTurned_38 rfl ?_
    refine g_iload_n (pc := 39) 2 rfl dX12_differsTurned_39 rfl ?_
    refine g_iload (pc := 40) 6 rfl dX12_differsTurned_40 ?_
    obtain ⟨p5, hp5, hf⟩ := am_bd hf
    refine g_cV (pc := 42) (As := [.int v2, .int v7]) (st := [.int v1, .ref (am_ad X 12 0), .long p4, .long v5]) (st1 := [.int p5, .int v1, .ref (am_ad X 12 0), .long p4, .long v5]) (in_12 hX (by omega)) kk_12 mV_X12_hourOf ln_X12_408 rfl (Nat.le_of_ble_eq_true rfl) (Nat.le_of_ble_eq_true rfl) (k_X12_hourOf hX v2 v7 σ hp5) dX12_differsTurned_42 rfl rfl ?_
    refine g_iconst (pc := 45) (v := 1) dX12_differsTurned_45 (by decide) ?_
    obtain ⟨p6, hp6, hf⟩ := am_bd hf
    refine g_cV (pc := 46) (As := [.int v1, .int p5, .int (am_b true)]) (st := [.long p4, .long v5]) (st1 := [.int p6, .long p4, .long v5]) (in_12 hX (by omega)) kk_12 mV_X12_heightOf ln_X12_334 rfl (Nat.le_of_ble_eq_true rfl) (Nat.le_of_ble_eq_true rfl) (k_X12_heightOf hX v1 p5 true σ hp6) dX12_differsTurned_46 rfl rfl ?_
    refine g_bipush (pc := 49) (v := 12) dX12_differsTurned_49 (by decide) ?_
    refine g_idiv (pc := 51) dX12_differsTurned_51 (by decide) ?_
    refine g_i2l (pc := 52) dX12_differsTurned_52 ?_
    refine g_lsub (pc := 53) dX12_differsTurned_53 ?_
    refine g_mabsL (pc := 54) (Nat.le_of_ble_eq_true rfl) (Nat.le_of_ble_eq_true rfl) sp_X12_131 dX12_differsTurned_54 ?_
    refine g_ladd (pc := 57) dX12_differsTurned_57 ?_
    refine g_lstore (pc := 58) [(5, .long (v5 + (am_abL (p4 - (Int32.toInt64 (p6 / 12)))))), (0, .ref (am_ad X 12 0)), (1, .int v1), (2, .int v2), (3, .int v3), (4, .int v4), (7, .int v7)] dX12_differsTurned_58 (Nat.le_of_ble_eq_true rfl) rfl ?_
    refine g_iinc (pc := 60) (v := (v7 + 1)) 6 [(7, .int (v7 + 1)), (5, .long (v5 + (am_abL (p4 - (Int32.toInt64 (p6 / 12)))))), (0, .ref (am_ad X 12 0)), (1, .int v1), (2, .int v2), (3, .int v3), (4, .int v4)] dX12_differsTurned_60 rfl rfl (Nat.le_of_ble_eq_true rfl) rfl ?_
    refine g_goto (pc := 63) 6 dX12_differsTurned_63 rfl ?_
    have hz := hk0 _ (Option.some.inj hf).symm
    exact am_sub [2, 3, 4, 5, 6, 1, 0] rfl hz
  replace hf := am_ifF c1 hf
  have hz := hk1 _ (Option.some.inj hf).symm
  exact am_sub [5] rfl hz
set_option maxRecDepth 100000 in
set_option maxHeartbeats 4000000 in
theorem l_X12_differsTurned_6 {X : am_X} (hX : am_ks X = am_ksM) {Q : Option Value → am_H → Prop} (v1 : Int32) (v2 : Int32) (v3 : Int32) (v4 : Int32) (σ : am_H) (s : Int64 × Int32) {o : Int64} (hf : am_loop (fun s => f_X12_differsTurned_6 v1 v2 v3 v4 s.1 s.2 σ) s = some o) (hk1 : ∀ t, o = t → am_G X gm_X12_differsTurned Q 66 [(5, .long t)] [] σ) : am_G X gm_X12_differsTurned Q 6 [(0, .ref (am_ad X 12 0)), (1, .int v1), (2, .int v2), (3, .int v3), (4, .int v4), (5, .long s.1), (7, .int s.2)] [] σ := by
  refine am_loop_ind (P := fun s => am_G X gm_X12_differsTurned Q 6 [(0, .ref (am_ad X 12 0)), (1, .int v1), (2, .int v2), (3, .int v3), (4, .int v4), (5, .long s.1), (7, .int s.2)] [] σ) (K := fun r => r = o) ?_ hf rfl
  intro s o1 hb hi hr
  exact q_X12_differsTurned_6 hX v1 v2 v3 v4 s.1 s.2  σ hb hi (fun t e => hk1 t (hr _ e).symm)
noncomputable def f_X12_differsTurned (v1 : Int32) (v2 : Int32) (v3 : Int32) (v4 : Int32) (σ : am_H) : Option (Int64) :=
  (am_loop (fun s => f_X12_differsTurned_6 v1 v2 v3 v4 s.1 s.2 σ) (0, 0)).bind fun w1 =>
  some w1
set_option maxRecDepth 100000 in
set_option maxHeartbeats 4000000 in
theorem q_X12_differsTurned {X : am_X} (hX : am_ks X = am_ksM) {Q : Option Value → am_H → Prop} (v1 : Int32) (v2 : Int32) (v3 : Int32) (v4 : Int32) (σ : am_H) {o : Int64} (hf : f_X12_differsTurned v1 v2 v3 v4 σ = some o) (hk : Q (some (.long o)) σ) : am_G X gm_X12_differsTurned Q 0 [(0, .ref (am_ad X 12 0)), (1, .int v1), (2, .int v2), (3, .int v3), (4, .int v4)] [] σ := by
  unfold f_X12_differsTurned at hf
  refine g_lconst (pc := 0) (v := 0) dX12_differsTurned_0 (by decide) ?_
  refine g_lstore (pc := 1) [(5, .long 0), (0, .ref (am_ad X 12 0)), (1, .int v1), (2, .int v2), (3, .int v3), (4, .int v4)] dX12_differsTurned_1 (Nat.le_of_ble_eq_true rfl) rfl ?_
  refine g_iconst (pc := 3) (v := 0) dX12_differsTurned_3 (by decide) ?_
  refine g_istore (pc := 4) [(7, .int 0), (5, .long 0), (0, .ref (am_ad X 12 0)), (1, .int v1), (2, .int v2), (3, .int v3), (4, .int v4)] dX12_differsTurned_4 (Nat.le_of_ble_eq_true rfl) rfl ?_
  obtain ⟨w1, hw1, hf⟩ := am_bd hf
  refine am_sub [2, 3, 4, 5, 6, 1, 0] rfl (l_X12_differsTurned_6 hX v1 v2 v3 v4  σ (0, 0) hw1 ?_)
  intro t e
  subst e
  refine g_lload (pc := 66) 0 rfl dX12_differsTurned_66 ?_
  have ho := Option.some.inj hf
  subst ho
  exact g_lreturn (pc := 68) (st := []) rfl dX12_differsTurned_68 hk
theorem k_X12_differsTurned {X : am_X} (hX : am_ks X = am_ksM) (v1 : Int32) (v2 : Int32) (v3 : Int32) (v4 : Int32) (σ : am_H) {o : Int64} (hf : f_X12_differsTurned v1 v2 v3 v4 σ = some o) : am_C X gm_X12_differsTurned [.ref (am_ad X 12 0), .int v1, .int v2, .int v3, .int v4] σ (am_is (some (.long o)) σ) :=
  am_ofG rfl (Nat.le_of_ble_eq_true rfl) rfl (q_X12_differsTurned hX v1 v2 v3 v4 σ hf ⟨rfl, rfl⟩)

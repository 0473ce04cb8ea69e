theorem dL_starts_0 : decode cL_starts 0 = .ok (.new 8, 3) := by decide +kernel
theorem dL_starts_3 : decode cL_starts 3 = .ok (.dup, 1) := by decide +kernel
theorem dL_starts_4 : decode cL_starts 4 = .ok (.invokespecial 93, 3) := by decide +kernel
theorem dL_starts_7 : decode cL_starts 7 = .ok (.astore_n 0, 1) := by decide +kernel
theorem dL_starts_8 : decode cL_starts 8 = .ok (.aload_n 0, 1) := by decide +kernel
theorem dL_starts_9 : decode cL_starts 9 = .ok (.invokevirtual 66, 3) := by decide +kernel
theorem dL_starts_12 : decode cL_starts 12 = .ok (.ifCond .ne 279, 3) := by decide +kernel
theorem dL_starts_15 : decode cL_starts 15 = .ok (.aload_n 0, 1) := by decide +kernel
theorem dL_starts_16 : decode cL_starts 16 = .ok (.invokevirtual 69, 3) := by decide +kernel
theorem dL_starts_19 : decode cL_starts 19 = .ok (.iconst (-1), 1) := by decide +kernel
theorem dL_starts_20 : decode cL_starts 20 = .ok (.if_icmp .ne 271, 3) := by decide +kernel
theorem dL_starts_23 : decode cL_starts 23 = .ok (.aload_n 0, 1) := by decide +kernel
theorem dL_starts_24 : decode cL_starts 24 = .ok (.invokevirtual 94, 3) := by decide +kernel
theorem dL_starts_27 : decode cL_starts 27 = .ok (.iconst (-1), 1) := by decide +kernel
theorem dL_starts_28 : decode cL_starts 28 = .ok (.if_icmp .ne 263, 3) := by decide +kernel
theorem dL_starts_31 : decode cL_starts 31 = .ok (.aload_n 0, 1) := by decide +kernel
theorem dL_starts_32 : decode cL_starts 32 = .ok (.invokevirtual 72, 3) := by decide +kernel
theorem dL_starts_35 : decode cL_starts 35 = .ok (.ifCond .ne 256, 3) := by decide +kernel
theorem dL_starts_38 : decode cL_starts 38 = .ok (.aload_n 0, 1) := by decide +kernel
theorem dL_starts_39 : decode cL_starts 39 = .ok (.invokevirtual 75, 3) := by decide +kernel
theorem dL_starts_42 : decode cL_starts 42 = .ok (.ifCond .ne 249, 3) := by decide +kernel
theorem dL_starts_45 : decode cL_starts 45 = .ok (.aload_n 0, 1) := by decide +kernel
theorem dL_starts_46 : decode cL_starts 46 = .ok (.iconst 5, 1) := by decide +kernel
theorem dL_starts_47 : decode cL_starts 47 = .ok (.iconst 0, 1) := by decide +kernel
theorem dL_starts_48 : decode cL_starts 48 = .ok (.iconst 0, 1) := by decide +kernel
theorem dL_starts_49 : decode cL_starts 49 = .ok (.invokestatic 86, 3) := by decide +kernel
theorem dL_starts_52 : decode cL_starts 52 = .ok (.bipush (-73), 2) := by decide +kernel
theorem dL_starts_54 : decode cL_starts 54 = .ok (.if_icmp .ne 237, 3) := by decide +kernel
theorem dL_starts_57 : decode cL_starts 57 = .ok (.aload_n 0, 1) := by decide +kernel
theorem dL_starts_58 : decode cL_starts 58 = .ok (.bipush 6, 2) := by decide +kernel
theorem dL_starts_60 : decode cL_starts 60 = .ok (.iconst 0, 1) := by decide +kernel
theorem dL_starts_61 : decode cL_starts 61 = .ok (.iconst 0, 1) := by decide +kernel
theorem dL_starts_62 : decode cL_starts 62 = .ok (.invokestatic 86, 3) := by decide +kernel
theorem dL_starts_65 : decode cL_starts 65 = .ok (.bipush (-73), 2) := by decide +kernel
theorem dL_starts_67 : decode cL_starts 67 = .ok (.if_icmp .ne 224, 3) := by decide +kernel
theorem dL_starts_70 : decode cL_starts 70 = .ok (.aload_n 0, 1) := by decide +kernel
theorem dL_starts_71 : decode cL_starts 71 = .ok (.bipush 8, 2) := by decide +kernel
theorem dL_starts_73 : decode cL_starts 73 = .ok (.iconst 0, 1) := by decide +kernel
theorem dL_starts_74 : decode cL_starts 74 = .ok (.iconst 0, 1) := by decide +kernel
theorem dL_starts_75 : decode cL_starts 75 = .ok (.invokestatic 86, 3) := by decide +kernel
theorem dL_starts_78 : decode cL_starts 78 = .ok (.bipush (-71), 2) := by decide +kernel
theorem dL_starts_80 : decode cL_starts 80 = .ok (.if_icmp .ne 211, 3) := by decide +kernel
theorem dL_starts_83 : decode cL_starts 83 = .ok (.aload_n 0, 1) := by decide +kernel
theorem dL_starts_84 : decode cL_starts 84 = .ok (.iconst (-1), 1) := by decide +kernel
theorem dL_starts_85 : decode cL_starts 85 = .ok (.invokevirtual 25, 3) := by decide +kernel
theorem dL_starts_88 : decode cL_starts 88 = .ok (.iconst (-1), 1) := by decide +kernel
theorem dL_starts_89 : decode cL_starts 89 = .ok (.if_icmp .ne 202, 3) := by decide +kernel
theorem dL_starts_92 : decode cL_starts 92 = .ok (.aload_n 0, 1) := by decide +kernel
theorem dL_starts_93 : decode cL_starts 93 = .ok (.iconst (-1), 1) := by decide +kernel
theorem dL_starts_94 : decode cL_starts 94 = .ok (.invokevirtual 28, 3) := by decide +kernel
theorem dL_starts_97 : decode cL_starts 97 = .ok (.iconst (-1), 1) := by decide +kernel
theorem dL_starts_98 : decode cL_starts 98 = .ok (.if_icmp .ne 193, 3) := by decide +kernel
theorem dL_starts_101 : decode cL_starts 101 = .ok (.aload_n 0, 1) := by decide +kernel
theorem dL_starts_102 : decode cL_starts 102 = .ok (.iconst 0, 1) := by decide +kernel
theorem dL_starts_103 : decode cL_starts 103 = .ok (.bipush 99, 2) := by decide +kernel
theorem dL_starts_105 : decode cL_starts 105 = .ok (.invokevirtual 31, 3) := by decide +kernel
theorem dL_starts_108 : decode cL_starts 108 = .ok (.ifCond .ne 183, 3) := by decide +kernel
theorem dL_starts_111 : decode cL_starts 111 = .ok (.aload_n 0, 1) := by decide +kernel
theorem dL_starts_112 : decode cL_starts 112 = .ok (.iconst 0, 1) := by decide +kernel
theorem dL_starts_113 : decode cL_starts 113 = .ok (.iconst 5, 1) := by decide +kernel
theorem dL_starts_114 : decode cL_starts 114 = .ok (.ldc 97, 2) := by decide +kernel
theorem dL_starts_116 : decode cL_starts 116 = .ok (.iconst 1, 1) := by decide +kernel
theorem dL_starts_117 : decode cL_starts 117 = .ok (.iconst (-1), 1) := by decide +kernel
theorem dL_starts_118 : decode cL_starts 118 = .ok (.invokevirtual 62, 3) := by decide +kernel
theorem dL_starts_121 : decode cL_starts 121 = .ok (.ifCond .ne 170, 3) := by decide +kernel
theorem dL_starts_124 : decode cL_starts 124 = .ok (.aload_n 0, 1) := by decide +kernel
theorem dL_starts_125 : decode cL_starts 125 = .ok (.iconst 0, 1) := by decide +kernel
theorem dL_starts_126 : decode cL_starts 126 = .ok (.iconst 5, 1) := by decide +kernel
theorem dL_starts_127 : decode cL_starts 127 = .ok (.ldc 97, 2) := by decide +kernel
theorem dL_starts_129 : decode cL_starts 129 = .ok (.iconst 0, 1) := by decide +kernel
theorem dL_starts_130 : decode cL_starts 130 = .ok (.iconst 2, 1) := by decide +kernel
theorem dL_starts_131 : decode cL_starts 131 = .ok (.invokevirtual 62, 3) := by decide +kernel
theorem dL_starts_134 : decode cL_starts 134 = .ok (.iconst 1, 1) := by decide +kernel
theorem dL_starts_135 : decode cL_starts 135 = .ok (.if_icmp .ne 156, 3) := by decide +kernel
theorem dL_starts_138 : decode cL_starts 138 = .ok (.aload_n 0, 1) := by decide +kernel
theorem dL_starts_139 : decode cL_starts 139 = .ok (.iconst 1, 1) := by decide +kernel
theorem dL_starts_140 : decode cL_starts 140 = .ok (.iconst 1, 1) := by decide +kernel
theorem dL_starts_141 : decode cL_starts 141 = .ok (.ldc 98, 2) := by decide +kernel
theorem dL_starts_143 : decode cL_starts 143 = .ok (.iconst 2, 1) := by decide +kernel
theorem dL_starts_144 : decode cL_starts 144 = .ok (.iconst 0, 1) := by decide +kernel
theorem dL_starts_145 : decode cL_starts 145 = .ok (.invokevirtual 62, 3) := by decide +kernel
theorem dL_starts_148 : decode cL_starts 148 = .ok (.iconst 2, 1) := by decide +kernel
theorem dL_starts_149 : decode cL_starts 149 = .ok (.if_icmp .ne 142, 3) := by decide +kernel
theorem dL_starts_152 : decode cL_starts 152 = .ok (.aload_n 0, 1) := by decide +kernel
theorem dL_starts_153 : decode cL_starts 153 = .ok (.iconst 0, 1) := by decide +kernel
theorem dL_starts_154 : decode cL_starts 154 = .ok (.iconst 3, 1) := by decide +kernel
theorem dL_starts_155 : decode cL_starts 155 = .ok (.ldc 97, 2) := by decide +kernel
theorem dL_starts_157 : decode cL_starts 157 = .ok (.iconst 1, 1) := by decide +kernel
theorem dL_starts_158 : decode cL_starts 158 = .ok (.iconst (-1), 1) := by decide +kernel
theorem dL_starts_159 : decode cL_starts 159 = .ok (.invokevirtual 62, 3) := by decide +kernel
theorem dL_starts_162 : decode cL_starts 162 = .ok (.iconst 3, 1) := by decide +kernel
theorem dL_starts_163 : decode cL_starts 163 = .ok (.if_icmp .ne 128, 3) := by decide +kernel
theorem dL_starts_166 : decode cL_starts 166 = .ok (.aload_n 0, 1) := by decide +kernel
theorem dL_starts_167 : decode cL_starts 167 = .ok (.iconst 0, 1) := by decide +kernel
theorem dL_starts_168 : decode cL_starts 168 = .ok (.iconst 3, 1) := by decide +kernel
theorem dL_starts_169 : decode cL_starts 169 = .ok (.ldc 99, 2) := by decide +kernel
theorem dL_starts_171 : decode cL_starts 171 = .ok (.iconst 1, 1) := by decide +kernel
theorem dL_starts_172 : decode cL_starts 172 = .ok (.iconst 1, 1) := by decide +kernel
theorem dL_starts_173 : decode cL_starts 173 = .ok (.invokevirtual 62, 3) := by decide +kernel
theorem dL_starts_176 : decode cL_starts 176 = .ok (.iconst 4, 1) := by decide +kernel
theorem dL_starts_177 : decode cL_starts 177 = .ok (.if_icmp .ne 114, 3) := by decide +kernel
theorem dL_starts_180 : decode cL_starts 180 = .ok (.aload_n 0, 1) := by decide +kernel
theorem dL_starts_181 : decode cL_starts 181 = .ok (.iconst 4, 1) := by decide +kernel
theorem dL_starts_182 : decode cL_starts 182 = .ok (.iconst 3, 1) := by decide +kernel
theorem dL_starts_183 : decode cL_starts 183 = .ok (.iconst 0, 1) := by decide +kernel
theorem dL_starts_184 : decode cL_starts 184 = .ok (.iconst 1, 1) := by decide +kernel
theorem dL_starts_185 : decode cL_starts 185 = .ok (.invokestatic 100, 3) := by decide +kernel
theorem dL_starts_188 : decode cL_starts 188 = .ok (.ifCond .eq 103, 3) := by decide +kernel
theorem dL_starts_191 : decode cL_starts 191 = .ok (.aload_n 0, 1) := by decide +kernel
theorem dL_starts_192 : decode cL_starts 192 = .ok (.iconst 4, 1) := by decide +kernel
theorem dL_starts_193 : decode cL_starts 193 = .ok (.invokevirtual 45, 3) := by decide +kernel
theorem dL_starts_196 : decode cL_starts 196 = .ok (.iconst 2, 1) := by decide +kernel
theorem dL_starts_197 : decode cL_starts 197 = .ok (.if_icmp .ne 94, 3) := by decide +kernel
theorem dL_starts_200 : decode cL_starts 200 = .ok (.aload_n 0, 1) := by decide +kernel
theorem dL_starts_201 : decode cL_starts 201 = .ok (.iconst 2, 1) := by decide +kernel
theorem dL_starts_202 : decode cL_starts 202 = .ok (.invokevirtual 48, 3) := by decide +kernel
theorem dL_starts_205 : decode cL_starts 205 = .ok (.iconst 4, 1) := by decide +kernel
theorem dL_starts_206 : decode cL_starts 206 = .ok (.if_icmp .ne 85, 3) := by decide +kernel
theorem dL_starts_209 : decode cL_starts 209 = .ok (.aload_n 0, 1) := by decide +kernel
theorem dL_starts_210 : decode cL_starts 210 = .ok (.iconst 0, 1) := by decide +kernel
theorem dL_starts_211 : decode cL_starts 211 = .ok (.iconst 1, 1) := by decide +kernel
theorem dL_starts_212 : decode cL_starts 212 = .ok (.invokevirtual 54, 3) := by decide +kernel
theorem dL_starts_215 : decode cL_starts 215 = .ok (.iconst 1, 1) := by decide +kernel
theorem dL_starts_216 : decode cL_starts 216 = .ok (.if_icmp .ne 75, 3) := by decide +kernel
theorem dL_starts_219 : decode cL_starts 219 = .ok (.aload_n 0, 1) := by decide +kernel
theorem dL_starts_220 : decode cL_starts 220 = .ok (.iconst 1, 1) := by decide +kernel
theorem dL_starts_221 : decode cL_starts 221 = .ok (.iconst 0, 1) := by decide +kernel
theorem dL_starts_222 : decode cL_starts 222 = .ok (.invokevirtual 54, 3) := by decide +kernel
theorem dL_starts_225 : decode cL_starts 225 = .ok (.iconst (-1), 1) := by decide +kernel
theorem dL_starts_226 : decode cL_starts 226 = .ok (.if_icmp .ne 65, 3) := by decide +kernel
theorem dL_starts_229 : decode cL_starts 229 = .ok (.aload_n 0, 1) := by decide +kernel
theorem dL_starts_230 : decode cL_starts 230 = .ok (.iconst 0, 1) := by decide +kernel
theorem dL_starts_231 : decode cL_starts 231 = .ok (.iconst 3, 1) := by decide +kernel
theorem dL_starts_232 : decode cL_starts 232 = .ok (.invokevirtual 54, 3) := by decide +kernel
theorem dL_starts_235 : decode cL_starts 235 = .ok (.ifCond .ne 56, 3) := by decide +kernel
theorem dL_starts_238 : decode cL_starts 238 = .ok (.aload_n 0, 1) := by decide +kernel
theorem dL_starts_239 : decode cL_starts 239 = .ok (.iconst 4, 1) := by decide +kernel
theorem dL_starts_240 : decode cL_starts 240 = .ok (.iconst 3, 1) := by decide +kernel
theorem dL_starts_241 : decode cL_starts 241 = .ok (.invokevirtual 54, 3) := by decide +kernel
theorem dL_starts_244 : decode cL_starts 244 = .ok (.iconst 1, 1) := by decide +kernel
theorem dL_starts_245 : decode cL_starts 245 = .ok (.if_icmp .ne 46, 3) := by decide +kernel
theorem dL_starts_248 : decode cL_starts 248 = .ok (.aload_n 0, 1) := by decide +kernel
theorem dL_starts_249 : decode cL_starts 249 = .ok (.iconst 2, 1) := by decide +kernel
theorem dL_starts_250 : decode cL_starts 250 = .ok (.iconst 2, 1) := by decide +kernel
theorem dL_starts_251 : decode cL_starts 251 = .ok (.invokevirtual 54, 3) := by decide +kernel
theorem dL_starts_254 : decode cL_starts 254 = .ok (.ifCond .ne 37, 3) := by decide +kernel
theorem dL_starts_257 : decode cL_starts 257 = .ok (.aload_n 0, 1) := by decide +kernel
theorem dL_starts_258 : decode cL_starts 258 = .ok (.invokevirtual 69, 3) := by decide +kernel
theorem dL_starts_261 : decode cL_starts 261 = .ok (.iconst 4, 1) := by decide +kernel
theorem dL_starts_262 : decode cL_starts 262 = .ok (.if_icmp .ne 29, 3) := by decide +kernel
theorem dL_starts_265 : decode cL_starts 265 = .ok (.aload_n 0, 1) := by decide +kernel
theorem dL_starts_266 : decode cL_starts 266 = .ok (.iconst 0, 1) := by decide +kernel
theorem dL_starts_267 : decode cL_starts 267 = .ok (.invokevirtual 57, 3) := by decide +kernel
theorem dL_starts_270 : decode cL_starts 270 = .ok (.ldc 104, 2) := by decide +kernel
theorem dL_starts_272 : decode cL_starts 272 = .ok (.if_icmp .ne 19, 3) := by decide +kernel
theorem dL_starts_275 : decode cL_starts 275 = .ok (.aload_n 0, 1) := by decide +kernel
theorem dL_starts_276 : decode cL_starts 276 = .ok (.invokevirtual 72, 3) := by decide +kernel
theorem dL_starts_279 : decode cL_starts 279 = .ok (.ifCond .ne 12, 3) := by decide +kernel
theorem dL_starts_282 : decode cL_starts 282 = .ok (.aload_n 0, 1) := by decide +kernel
theorem dL_starts_283 : decode cL_starts 283 = .ok (.iconst 0, 1) := by decide +kernel
theorem dL_starts_284 : decode cL_starts 284 = .ok (.iconst 5, 1) := by decide +kernel
theorem dL_starts_285 : decode cL_starts 285 = .ok (.invokestatic 105, 3) := by decide +kernel
theorem dL_starts_288 : decode cL_starts 288 = .ok (.ifCond .ne 5, 3) := by decide +kernel
theorem dL_starts_291 : decode cL_starts 291 = .ok (.iconst 0, 1) := by decide +kernel
theorem dL_starts_292 : decode cL_starts 292 = .ok (.ireturn, 1) := by decide +kernel
theorem dL_starts_293 : decode cL_starts 293 = .ok (.aload_n 0, 1) := by decide +kernel
theorem dL_starts_294 : decode cL_starts 294 = .ok (.iconst 4, 1) := by decide +kernel
theorem dL_starts_295 : decode cL_starts 295 = .ok (.bipush 9, 2) := by decide +kernel
theorem dL_starts_297 : decode cL_starts 297 = .ok (.invokevirtual 31, 3) := by decide +kernel
theorem dL_starts_300 : decode cL_starts 300 = .ok (.iconst 2, 1) := by decide +kernel
theorem dL_starts_301 : decode cL_starts 301 = .ok (.if_icmp .ne 268, 3) := by decide +kernel
theorem dL_starts_304 : decode cL_starts 304 = .ok (.aload_n 0, 1) := by decide +kernel
theorem dL_starts_305 : decode cL_starts 305 = .ok (.invokevirtual 69, 3) := by decide +kernel
theorem dL_starts_308 : decode cL_starts 308 = .ok (.ifCond .ne 261, 3) := by decide +kernel
theorem dL_starts_311 : decode cL_starts 311 = .ok (.aload_n 0, 1) := by decide +kernel
theorem dL_starts_312 : decode cL_starts 312 = .ok (.iconst 2, 1) := by decide +kernel
theorem dL_starts_313 : decode cL_starts 313 = .ok (.invokevirtual 28, 3) := by decide +kernel
theorem dL_starts_316 : decode cL_starts 316 = .ok (.iconst (-1), 1) := by decide +kernel
theorem dL_starts_317 : decode cL_starts 317 = .ok (.if_icmp .ne 252, 3) := by decide +kernel
theorem dL_starts_320 : decode cL_starts 320 = .ok (.aload_n 0, 1) := by decide +kernel
theorem dL_starts_321 : decode cL_starts 321 = .ok (.invokevirtual 69, 3) := by decide +kernel
theorem dL_starts_324 : decode cL_starts 324 = .ok (.iconst 2, 1) := by decide +kernel
theorem dL_starts_325 : decode cL_starts 325 = .ok (.if_icmp .ne 244, 3) := by decide +kernel
theorem dL_starts_328 : decode cL_starts 328 = .ok (.aload_n 0, 1) := by decide +kernel
theorem dL_starts_329 : decode cL_starts 329 = .ok (.invokevirtual 34, 3) := by decide +kernel
theorem dL_starts_332 : decode cL_starts 332 = .ok (.iconst 2, 1) := by decide +kernel
theorem dL_starts_333 : decode cL_starts 333 = .ok (.if_icmp .ne 236, 3) := by decide +kernel
theorem dL_starts_336 : decode cL_starts 336 = .ok (.aload_n 0, 1) := by decide +kernel
theorem dL_starts_337 : decode cL_starts 337 = .ok (.iconst 2, 1) := by decide +kernel
theorem dL_starts_338 : decode cL_starts 338 = .ok (.invokevirtual 51, 3) := by decide +kernel
theorem dL_starts_341 : decode cL_starts 341 = .ok (.ifCond .ne 228, 3) := by decide +kernel
theorem dL_starts_344 : decode cL_starts 344 = .ok (.aload_n 0, 1) := by decide +kernel
theorem dL_starts_345 : decode cL_starts 345 = .ok (.invokevirtual 94, 3) := by decide +kernel
theorem dL_starts_348 : decode cL_starts 348 = .ok (.iconst 2, 1) := by decide +kernel
theorem dL_starts_349 : decode cL_starts 349 = .ok (.if_icmp .ne 220, 3) := by decide +kernel
theorem dL_starts_352 : decode cL_starts 352 = .ok (.aload_n 0, 1) := by decide +kernel
theorem dL_starts_353 : decode cL_starts 353 = .ok (.invokevirtual 69, 3) := by decide +kernel
theorem dL_starts_356 : decode cL_starts 356 = .ok (.ifCond .ne 213, 3) := by decide +kernel
theorem dL_starts_359 : decode cL_starts 359 = .ok (.aload_n 0, 1) := by decide +kernel
theorem dL_starts_360 : decode cL_starts 360 = .ok (.iconst (-1), 1) := by decide +kernel
theorem dL_starts_361 : decode cL_starts 361 = .ok (.invokevirtual 28, 3) := by decide +kernel
theorem dL_starts_364 : decode cL_starts 364 = .ok (.iconst (-1), 1) := by decide +kernel
theorem dL_starts_365 : decode cL_starts 365 = .ok (.if_icmp .ne 204, 3) := by decide +kernel
theorem dL_starts_368 : decode cL_starts 368 = .ok (.aload_n 0, 1) := by decide +kernel
theorem dL_starts_369 : decode cL_starts 369 = .ok (.invokevirtual 34, 3) := by decide +kernel
theorem dL_starts_372 : decode cL_starts 372 = .ok (.ifCond .ne 197, 3) := by decide +kernel
theorem dL_starts_375 : decode cL_starts 375 = .ok (.aload_n 0, 1) := by decide +kernel
theorem dL_starts_376 : decode cL_starts 376 = .ok (.invokevirtual 72, 3) := by decide +kernel
theorem dL_starts_379 : decode cL_starts 379 = .ok (.ldc 104, 2) := by decide +kernel
theorem dL_starts_381 : decode cL_starts 381 = .ok (.if_icmp .ne 188, 3) := by decide +kernel
theorem dL_starts_384 : decode cL_starts 384 = .ok (.aload_n 0, 1) := by decide +kernel
theorem dL_starts_385 : decode cL_starts 385 = .ok (.iconst 0, 1) := by decide +kernel
theorem dL_starts_386 : decode cL_starts 386 = .ok (.invokevirtual 51, 3) := by decide +kernel
theorem dL_starts_389 : decode cL_starts 389 = .ok (.iconst (-1), 1) := by decide +kernel
theorem dL_starts_390 : decode cL_starts 390 = .ok (.if_icmp .ne 179, 3) := by decide +kernel
theorem dL_starts_393 : decode cL_starts 393 = .ok (.aload_n 0, 1) := by decide +kernel
theorem dL_starts_394 : decode cL_starts 394 = .ok (.iconst 1, 1) := by decide +kernel
theorem dL_starts_395 : decode cL_starts 395 = .ok (.invokevirtual 25, 3) := by decide +kernel
theorem dL_starts_398 : decode cL_starts 398 = .ok (.iconst (-1), 1) := by decide +kernel
theorem dL_starts_399 : decode cL_starts 399 = .ok (.if_icmp .ne 170, 3) := by decide +kernel
theorem dL_starts_402 : decode cL_starts 402 = .ok (.aload_n 0, 1) := by decide +kernel
theorem dL_starts_403 : decode cL_starts 403 = .ok (.invokevirtual 69, 3) := by decide +kernel
theorem dL_starts_406 : decode cL_starts 406 = .ok (.iconst 1, 1) := by decide +kernel
theorem dL_starts_407 : decode cL_starts 407 = .ok (.if_icmp .ne 162, 3) := by decide +kernel
theorem dL_starts_410 : decode cL_starts 410 = .ok (.aload_n 0, 1) := by decide +kernel
theorem dL_starts_411 : decode cL_starts 411 = .ok (.invokevirtual 34, 3) := by decide +kernel
theorem dL_starts_414 : decode cL_starts 414 = .ok (.iconst 1, 1) := by decide +kernel
theorem dL_starts_415 : decode cL_starts 415 = .ok (.if_icmp .ne 154, 3) := by decide +kernel
theorem dL_starts_418 : decode cL_starts 418 = .ok (.aload_n 0, 1) := by decide +kernel
theorem dL_starts_419 : decode cL_starts 419 = .ok (.iconst 1, 1) := by decide +kernel
theorem dL_starts_420 : decode cL_starts 420 = .ok (.invokevirtual 51, 3) := by decide +kernel
theorem dL_starts_423 : decode cL_starts 423 = .ok (.iconst 1, 1) := by decide +kernel
theorem dL_starts_424 : decode cL_starts 424 = .ok (.if_icmp .ne 145, 3) := by decide +kernel
theorem dL_starts_427 : decode cL_starts 427 = .ok (.aload_n 0, 1) := by decide +kernel
theorem dL_starts_428 : decode cL_starts 428 = .ok (.invokevirtual 34, 3) := by decide +kernel
theorem dL_starts_431 : decode cL_starts 431 = .ok (.iconst 1, 1) := by decide +kernel
theorem dL_starts_432 : decode cL_starts 432 = .ok (.if_icmp .ne 137, 3) := by decide +kernel
theorem dL_starts_435 : decode cL_starts 435 = .ok (.aload_n 0, 1) := by decide +kernel
theorem dL_starts_436 : decode cL_starts 436 = .ok (.iconst 1, 1) := by decide +kernel
theorem dL_starts_437 : decode cL_starts 437 = .ok (.invokevirtual 51, 3) := by decide +kernel
theorem dL_starts_440 : decode cL_starts 440 = .ok (.ifCond .ne 129, 3) := by decide +kernel
theorem dL_starts_443 : decode cL_starts 443 = .ok (.aload_n 0, 1) := by decide +kernel
theorem dL_starts_444 : decode cL_starts 444 = .ok (.iconst 1, 1) := by decide +kernel
theorem dL_starts_445 : decode cL_starts 445 = .ok (.invokevirtual 48, 3) := by decide +kernel
theorem dL_starts_448 : decode cL_starts 448 = .ok (.iconst 3, 1) := by decide +kernel
theorem dL_starts_449 : decode cL_starts 449 = .ok (.if_icmp .ne 120, 3) := by decide +kernel
theorem dL_starts_452 : decode cL_starts 452 = .ok (.aload_n 0, 1) := by decide +kernel
theorem dL_starts_453 : decode cL_starts 453 = .ok (.invokevirtual 69, 3) := by decide +kernel
theorem dL_starts_456 : decode cL_starts 456 = .ok (.ifCond .ne 113, 3) := by decide +kernel
theorem dL_starts_459 : decode cL_starts 459 = .ok (.aload_n 0, 1) := by decide +kernel
theorem dL_starts_460 : decode cL_starts 460 = .ok (.invokevirtual 38, 3) := by decide +kernel
theorem dL_starts_463 : decode cL_starts 463 = .ok (.ifCond .ne 106, 3) := by decide +kernel
theorem dL_starts_466 : decode cL_starts 466 = .ok (.aload_n 0, 1) := by decide +kernel
theorem dL_starts_467 : decode cL_starts 467 = .ok (.iconst 1, 1) := by decide +kernel
theorem dL_starts_468 : decode cL_starts 468 = .ok (.invokevirtual 51, 3) := by decide +kernel
theorem dL_starts_471 : decode cL_starts 471 = .ok (.iconst (-1), 1) := by decide +kernel
theorem dL_starts_472 : decode cL_starts 472 = .ok (.if_icmp .ne 97, 3) := by decide +kernel
theorem dL_starts_475 : decode cL_starts 475 = .ok (.aload_n 0, 1) := by decide +kernel
theorem dL_starts_476 : decode cL_starts 476 = .ok (.invokevirtual 38, 3) := by decide +kernel
theorem dL_starts_479 : decode cL_starts 479 = .ok (.iconst (-1), 1) := by decide +kernel
theorem dL_starts_480 : decode cL_starts 480 = .ok (.if_icmp .ne 89, 3) := by decide +kernel
theorem dL_starts_483 : decode cL_starts 483 = .ok (.aload_n 0, 1) := by decide +kernel
theorem dL_starts_484 : decode cL_starts 484 = .ok (.invokevirtual 69, 3) := by decide +kernel
theorem dL_starts_487 : decode cL_starts 487 = .ok (.iconst 1, 1) := by decide +kernel
theorem dL_starts_488 : decode cL_starts 488 = .ok (.if_icmp .ne 81, 3) := by decide +kernel
theorem dL_starts_491 : decode cL_starts 491 = .ok (.aload_n 0, 1) := by decide +kernel
theorem dL_starts_492 : decode cL_starts 492 = .ok (.iconst 4, 1) := by decide +kernel
theorem dL_starts_493 : decode cL_starts 493 = .ok (.iconst 3, 1) := by decide +kernel
theorem dL_starts_494 : decode cL_starts 494 = .ok (.iconst 0, 1) := by decide +kernel
theorem dL_starts_495 : decode cL_starts 495 = .ok (.iconst 1, 1) := by decide +kernel
theorem dL_starts_496 : decode cL_starts 496 = .ok (.invokestatic 100, 3) := by decide +kernel
theorem dL_starts_499 : decode cL_starts 499 = .ok (.ifCond .eq 70, 3) := by decide +kernel
theorem dL_starts_502 : decode cL_starts 502 = .ok (.aload_n 0, 1) := by decide +kernel
theorem dL_starts_503 : decode cL_starts 503 = .ok (.iconst 1, 1) := by decide +kernel
theorem dL_starts_504 : decode cL_starts 504 = .ok (.invokevirtual 17, 3) := by decide +kernel
theorem dL_starts_507 : decode cL_starts 507 = .ok (.iconst 4, 1) := by decide +kernel
theorem dL_starts_508 : decode cL_starts 508 = .ok (.if_icmp .ne 61, 3) := by decide +kernel
theorem dL_starts_511 : decode cL_starts 511 = .ok (.aload_n 0, 1) := by decide +kernel
theorem dL_starts_512 : decode cL_starts 512 = .ok (.invokevirtual 38, 3) := by decide +kernel
theorem dL_starts_515 : decode cL_starts 515 = .ok (.iconst (-1), 1) := by decide +kernel
theorem dL_starts_516 : decode cL_starts 516 = .ok (.if_icmp .ne 53, 3) := by decide +kernel
theorem dL_starts_519 : decode cL_starts 519 = .ok (.aload_n 0, 1) := by decide +kernel
theorem dL_starts_520 : decode cL_starts 520 = .ok (.invokevirtual 94, 3) := by decide +kernel
theorem dL_starts_523 : decode cL_starts 523 = .ok (.iconst 1, 1) := by decide +kernel
theorem dL_starts_524 : decode cL_starts 524 = .ok (.if_icmp .ne 45, 3) := by decide +kernel
theorem dL_starts_527 : decode cL_starts 527 = .ok (.aload_n 0, 1) := by decide +kernel
theorem dL_starts_528 : decode cL_starts 528 = .ok (.invokevirtual 69, 3) := by decide +kernel
theorem dL_starts_531 : decode cL_starts 531 = .ok (.ifCond .ne 38, 3) := by decide +kernel
theorem dL_starts_534 : decode cL_starts 534 = .ok (.aload_n 0, 1) := by decide +kernel
theorem dL_starts_535 : decode cL_starts 535 = .ok (.iconst 0, 1) := by decide +kernel
theorem dL_starts_536 : decode cL_starts 536 = .ok (.iconst 1, 1) := by decide +kernel
theorem dL_starts_537 : decode cL_starts 537 = .ok (.invokestatic 105, 3) := by decide +kernel
theorem dL_starts_540 : decode cL_starts 540 = .ok (.ifCond .eq 29, 3) := by decide +kernel
theorem dL_starts_543 : decode cL_starts 543 = .ok (.aload_n 0, 1) := by decide +kernel
theorem dL_starts_544 : decode cL_starts 544 = .ok (.iconst 3, 1) := by decide +kernel
theorem dL_starts_545 : decode cL_starts 545 = .ok (.invokevirtual 25, 3) := by decide +kernel
theorem dL_starts_548 : decode cL_starts 548 = .ok (.iconst 1, 1) := by decide +kernel
theorem dL_starts_549 : decode cL_starts 549 = .ok (.if_icmp .ne 20, 3) := by decide +kernel
theorem dL_starts_552 : decode cL_starts 552 = .ok (.aload_n 0, 1) := by decide +kernel
theorem dL_starts_553 : decode cL_starts 553 = .ok (.invokevirtual 69, 3) := by decide +kernel
theorem dL_starts_556 : decode cL_starts 556 = .ok (.iconst 3, 1) := by decide +kernel
theorem dL_starts_557 : decode cL_starts 557 = .ok (.if_icmp .ne 12, 3) := by decide +kernel
theorem dL_starts_560 : decode cL_starts 560 = .ok (.aload_n 0, 1) := by decide +kernel
theorem dL_starts_561 : decode cL_starts 561 = .ok (.iconst (-1), 1) := by decide +kernel
theorem dL_starts_562 : decode cL_starts 562 = .ok (.invokevirtual 25, 3) := by decide +kernel
theorem dL_starts_565 : decode cL_starts 565 = .ok (.iconst 3, 1) := by decide +kernel
theorem dL_starts_566 : decode cL_starts 566 = .ok (.if_icmp .eq 5, 3) := by decide +kernel
theorem dL_starts_569 : decode cL_starts 569 = .ok (.iconst 0, 1) := by decide +kernel
theorem dL_starts_570 : decode cL_starts 570 = .ok (.ireturn, 1) := by decide +kernel
theorem dL_starts_571 : decode cL_starts 571 = .ok (.aload_n 0, 1) := by decide +kernel
theorem dL_starts_572 : decode cL_starts 572 = .ok (.bipush 50, 2) := by decide +kernel
theorem dL_starts_574 : decode cL_starts 574 = .ok (.bipush 60, 2) := by decide +kernel
theorem dL_starts_576 : decode cL_starts 576 = .ok (.invokevirtual 31, 3) := by decide +kernel
theorem dL_starts_579 : decode cL_starts 579 = .ok (.ifCond .ne 195, 3) := by decide +kernel
theorem dL_starts_582 : decode cL_starts 582 = .ok (.aload_n 0, 1) := by decide +kernel
theorem dL_starts_583 : decode cL_starts 583 = .ok (.invokevirtual 69, 3) := by decide +kernel
theorem dL_starts_586 : decode cL_starts 586 = .ok (.iconst 4, 1) := by decide +kernel
theorem dL_starts_587 : decode cL_starts 587 = .ok (.if_icmp .ne 187, 3) := by decide +kernel
theorem dL_starts_590 : decode cL_starts 590 = .ok (.aload_n 0, 1) := by decide +kernel
theorem dL_starts_591 : decode cL_starts 591 = .ok (.invokevirtual 34, 3) := by decide +kernel
theorem dL_starts_594 : decode cL_starts 594 = .ok (.iconst 4, 1) := by decide +kernel
theorem dL_starts_595 : decode cL_starts 595 = .ok (.if_icmp .ne 179, 3) := by decide +kernel
theorem dL_starts_598 : decode cL_starts 598 = .ok (.aload_n 0, 1) := by decide +kernel
theorem dL_starts_599 : decode cL_starts 599 = .ok (.iconst 4, 1) := by decide +kernel
theorem dL_starts_600 : decode cL_starts 600 = .ok (.invokevirtual 51, 3) := by decide +kernel
theorem dL_starts_603 : decode cL_starts 603 = .ok (.ifCond .ne 171, 3) := by decide +kernel
theorem dL_starts_606 : decode cL_starts 606 = .ok (.aload_n 0, 1) := by decide +kernel
theorem dL_starts_607 : decode cL_starts 607 = .ok (.iconst 3, 1) := by decide +kernel
theorem dL_starts_608 : decode cL_starts 608 = .ok (.iconst 0, 1) := by decide +kernel
theorem dL_starts_609 : decode cL_starts 609 = .ok (.iconst 4, 1) := by decide +kernel
theorem dL_starts_610 : decode cL_starts 610 = .ok (.iconst 2, 1) := by decide +kernel
theorem dL_starts_611 : decode cL_starts 611 = .ok (.invokestatic 100, 3) := by decide +kernel
theorem dL_starts_614 : decode cL_starts 614 = .ok (.ifCond .eq 160, 3) := by decide +kernel
theorem dL_starts_617 : decode cL_starts 617 = .ok (.aload_n 0, 1) := by decide +kernel
theorem dL_starts_618 : decode cL_starts 618 = .ok (.invokevirtual 69, 3) := by decide +kernel
theorem dL_starts_621 : decode cL_starts 621 = .ok (.iconst 3, 1) := by decide +kernel
theorem dL_starts_622 : decode cL_starts 622 = .ok (.if_icmp .ne 152, 3) := by decide +kernel
theorem dL_starts_625 : decode cL_starts 625 = .ok (.aload_n 0, 1) := by decide +kernel
theorem dL_starts_626 : decode cL_starts 626 = .ok (.iconst 4, 1) := by decide +kernel
theorem dL_starts_627 : decode cL_starts 627 = .ok (.invokevirtual 28, 3) := by decide +kernel
theorem dL_starts_630 : decode cL_starts 630 = .ok (.iconst (-1), 1) := by decide +kernel
theorem dL_starts_631 : decode cL_starts 631 = .ok (.if_icmp .ne 143, 3) := by decide +kernel
theorem dL_starts_634 : decode cL_starts 634 = .ok (.aload_n 0, 1) := by decide +kernel
theorem dL_starts_635 : decode cL_starts 635 = .ok (.iconst 4, 1) := by decide +kernel
theorem dL_starts_636 : decode cL_starts 636 = .ok (.invokevirtual 17, 3) := by decide +kernel
theorem dL_starts_639 : decode cL_starts 639 = .ok (.iconst 3, 1) := by decide +kernel
theorem dL_starts_640 : decode cL_starts 640 = .ok (.if_icmp .ne 134, 3) := by decide +kernel
theorem dL_starts_643 : decode cL_starts 643 = .ok (.aload_n 0, 1) := by decide +kernel
theorem dL_starts_644 : decode cL_starts 644 = .ok (.invokevirtual 69, 3) := by decide +kernel
theorem dL_starts_647 : decode cL_starts 647 = .ok (.iconst 3, 1) := by decide +kernel
theorem dL_starts_648 : decode cL_starts 648 = .ok (.if_icmp .ne 126, 3) := by decide +kernel
theorem dL_starts_651 : decode cL_starts 651 = .ok (.aload_n 0, 1) := by decide +kernel
theorem dL_starts_652 : decode cL_starts 652 = .ok (.iconst 0, 1) := by decide +kernel
theorem dL_starts_653 : decode cL_starts 653 = .ok (.invokevirtual 28, 3) := by decide +kernel
theorem dL_starts_656 : decode cL_starts 656 = .ok (.iconst 4, 1) := by decide +kernel
theorem dL_starts_657 : decode cL_starts 657 = .ok (.if_icmp .ne 117, 3) := by decide +kernel
theorem dL_starts_660 : decode cL_starts 660 = .ok (.aload_n 0, 1) := by decide +kernel
theorem dL_starts_661 : decode cL_starts 661 = .ok (.iconst 3, 1) := by decide +kernel
theorem dL_starts_662 : decode cL_starts 662 = .ok (.invokevirtual 28, 3) := by decide +kernel
theorem dL_starts_665 : decode cL_starts 665 = .ok (.ifCond .ne 109, 3) := by decide +kernel
theorem dL_starts_668 : decode cL_starts 668 = .ok (.aload_n 0, 1) := by decide +kernel
theorem dL_starts_669 : decode cL_starts 669 = .ok (.iconst 3, 1) := by decide +kernel
theorem dL_starts_670 : decode cL_starts 670 = .ok (.invokevirtual 17, 3) := by decide +kernel
theorem dL_starts_673 : decode cL_starts 673 = .ok (.iconst 2, 1) := by decide +kernel
theorem dL_starts_674 : decode cL_starts 674 = .ok (.if_icmp .ne 100, 3) := by decide +kernel
theorem dL_starts_677 : decode cL_starts 677 = .ok (.aload_n 0, 1) := by decide +kernel
theorem dL_starts_678 : decode cL_starts 678 = .ok (.invokevirtual 34, 3) := by decide +kernel
theorem dL_starts_681 : decode cL_starts 681 = .ok (.ifCond .ne 93, 3) := by decide +kernel
theorem dL_starts_684 : decode cL_starts 684 = .ok (.aload_n 0, 1) := by decide +kernel
theorem dL_starts_685 : decode cL_starts 685 = .ok (.iconst (-1), 1) := by decide +kernel
theorem dL_starts_686 : decode cL_starts 686 = .ok (.invokevirtual 28, 3) := by decide +kernel
theorem dL_starts_689 : decode cL_starts 689 = .ok (.iconst (-1), 1) := by decide +kernel
theorem dL_starts_690 : decode cL_starts 690 = .ok (.if_icmp .ne 84, 3) := by decide +kernel
theorem dL_starts_693 : decode cL_starts 693 = .ok (.aload_n 0, 1) := by decide +kernel
theorem dL_starts_694 : decode cL_starts 694 = .ok (.iconst 0, 1) := by decide +kernel
theorem dL_starts_695 : decode cL_starts 695 = .ok (.invokevirtual 17, 3) := by decide +kernel
theorem dL_starts_698 : decode cL_starts 698 = .ok (.iconst 1, 1) := by decide +kernel
theorem dL_starts_699 : decode cL_starts 699 = .ok (.if_icmp .ne 75, 3) := by decide +kernel
theorem dL_starts_702 : decode cL_starts 702 = .ok (.aload_n 0, 1) := by decide +kernel
theorem dL_starts_703 : decode cL_starts 703 = .ok (.invokevirtual 69, 3) := by decide +kernel
theorem dL_starts_706 : decode cL_starts 706 = .ok (.iconst 2, 1) := by decide +kernel
theorem dL_starts_707 : decode cL_starts 707 = .ok (.if_icmp .ne 67, 3) := by decide +kernel
theorem dL_starts_710 : decode cL_starts 710 = .ok (.aload_n 0, 1) := by decide +kernel
theorem dL_starts_711 : decode cL_starts 711 = .ok (.invokevirtual 34, 3) := by decide +kernel
theorem dL_starts_714 : decode cL_starts 714 = .ok (.iconst 2, 1) := by decide +kernel
theorem dL_starts_715 : decode cL_starts 715 = .ok (.if_icmp .ne 59, 3) := by decide +kernel
theorem dL_starts_718 : decode cL_starts 718 = .ok (.aload_n 0, 1) := by decide +kernel
theorem dL_starts_719 : decode cL_starts 719 = .ok (.iconst 2, 1) := by decide +kernel
theorem dL_starts_720 : decode cL_starts 720 = .ok (.invokevirtual 51, 3) := by decide +kernel
theorem dL_starts_723 : decode cL_starts 723 = .ok (.ifCond .ne 51, 3) := by decide +kernel
theorem dL_starts_726 : decode cL_starts 726 = .ok (.aload_n 0, 1) := by decide +kernel
theorem dL_starts_727 : decode cL_starts 727 = .ok (.iconst 2, 1) := by decide +kernel
theorem dL_starts_728 : decode cL_starts 728 = .ok (.invokevirtual 17, 3) := by decide +kernel
theorem dL_starts_731 : decode cL_starts 731 = .ok (.ifCond .ne 43, 3) := by decide +kernel
theorem dL_starts_734 : decode cL_starts 734 = .ok (.aload_n 0, 1) := by decide +kernel
theorem dL_starts_735 : decode cL_starts 735 = .ok (.invokevirtual 69, 3) := by decide +kernel
theorem dL_starts_738 : decode cL_starts 738 = .ok (.iconst (-1), 1) := by decide +kernel
theorem dL_starts_739 : decode cL_starts 739 = .ok (.if_icmp .ne 35, 3) := by decide +kernel
theorem dL_starts_742 : decode cL_starts 742 = .ok (.aload_n 0, 1) := by decide +kernel
theorem dL_starts_743 : decode cL_starts 743 = .ok (.invokevirtual 94, 3) := by decide +kernel
theorem dL_starts_746 : decode cL_starts 746 = .ok (.iconst 2, 1) := by decide +kernel
theorem dL_starts_747 : decode cL_starts 747 = .ok (.if_icmp .ne 27, 3) := by decide +kernel
theorem dL_starts_750 : decode cL_starts 750 = .ok (.aload_n 0, 1) := by decide +kernel
theorem dL_starts_751 : decode cL_starts 751 = .ok (.iconst 5, 1) := by decide +kernel
theorem dL_starts_752 : decode cL_starts 752 = .ok (.iconst 0, 1) := by decide +kernel
theorem dL_starts_753 : decode cL_starts 753 = .ok (.iconst 0, 1) := by decide +kernel
theorem dL_starts_754 : decode cL_starts 754 = .ok (.invokestatic 86, 3) := by decide +kernel
theorem dL_starts_757 : decode cL_starts 757 = .ok (.bipush (-73), 2) := by decide +kernel
theorem dL_starts_759 : decode cL_starts 759 = .ok (.if_icmp .ne 15, 3) := by decide +kernel
theorem dL_starts_762 : decode cL_starts 762 = .ok (.aload_n 0, 1) := by decide +kernel
theorem dL_starts_763 : decode cL_starts 763 = .ok (.invokevirtual 38, 3) := by decide +kernel
theorem dL_starts_766 : decode cL_starts 766 = .ok (.iconst (-1), 1) := by decide +kernel
theorem dL_starts_767 : decode cL_starts 767 = .ok (.if_icmp .ne 7, 3) := by decide +kernel
theorem dL_starts_770 : decode cL_starts 770 = .ok (.iconst 1, 1) := by decide +kernel
theorem dL_starts_771 : decode cL_starts 771 = .ok (.goto 4, 3) := by decide +kernel
theorem dL_starts_774 : decode cL_starts 774 = .ok (.iconst 0, 1) := by decide +kernel
theorem dL_starts_775 : decode cL_starts 775 = .ok (.ireturn, 1) := by decide +kernel
set_option maxRecDepth 200000 in
theorem ggL_locks_X2_init : GoodIn wsL_locks wsX2_init := goodIn_r _ [11, 12, 13, 14, 15, 16, 17, 18, 19, 20, 21, 22, 23, 24, 25, 26, 27, 28, 29, 30, 31, 32, 33, 34, 35, 36, 37, 38, 39, 40, 41, 42, 43, 44, 45, 46, 47, 48, 49, 250, 251, 252, 253, 254, 255, 256, 257, 258, 259, 260, 261, 262, 263, 264, 265, 266, 267, 268, 269, 270, 271] rfl (by decide +kernel)
set_option maxRecDepth 20000 in
theorem gL_locks_X2_init : GoodIn wsL_locks (wsX2_init) := ggL_locks_X2_init
set_option maxRecDepth 200000 in
theorem ggL_locks_X2_add : GoodIn wsL_locks wsX2_add := goodIn_ca (goodIn_ca (goodIn_r _ [53, 54, 55, 56, 57, 58, 21, 59, 60, 3, 61, 62, 63, 64, 65, 16, 66, 29, 67, 68, 42, 43, 44, 45, 46, 47, 48, 49, 250, 251, 252, 253, 254, 255, 256, 257, 258, 264, 265, 266, 267, 268, 269, 270, 271] rfl (by decide +kernel)) (goodIn_sub (fun _ h => List.mem_cons_of_mem _ (List.mem_append_left _ (List.mem_append_left _ (List.mem_append_left _ (List.mem_append_right _ h))))) (by decide +kernel))) (goodIn_sub (fun _ h => List.mem_cons_of_mem _ (List.mem_append_left _ (List.mem_append_left _ (List.mem_append_right _ h)))) (by decide +kernel))
set_option maxRecDepth 20000 in
theorem gL_locks_X2_add : GoodIn wsL_locks (wsV RL 62 RX2 yX2_add wsX2_add) := goodIn_app (goodIn_of _ (by decide +kernel)) ggL_locks_X2_add
set_option maxRecDepth 200000 in
theorem ggL_locks_L_lock : GoodIn wsL_locks wsL_lock := goodIn_ca (goodIn_ca (goodIn_r _ [72, 73, 74, 75, 76, 77, 3, 78, 54, 55, 20, 59, 60, 61, 79, 80, 81, 82, 83, 84, 85, 56, 57, 86, 19, 87, 88, 35, 36, 37, 89, 90, 91, 92, 38, 250, 251, 252, 253, 254, 255, 256, 257, 258, 259, 260, 261, 262, 263] rfl (by decide +kernel)) (goodIn_sub (fun _ h => List.mem_cons_of_mem _ (List.mem_append_left _ (List.mem_append_left _ (List.mem_append_left _ (List.mem_append_right _ h))))) (by decide +kernel))) (goodIn_sub (fun _ h => List.mem_cons_of_mem _ (List.mem_append_left _ (List.mem_append_left _ (List.mem_append_right _ h)))) (by decide +kernel))
set_option maxRecDepth 20000 in
theorem gL_locks_L_lock : GoodIn wsL_locks (va_wsS RL 90 yL_lock wsL_lock) := goodIn_app (goodIn_of _ (by decide +kernel)) ggL_locks_L_lock
set_option maxRecDepth 200000 in
theorem ggL_locks_X2_isLocked : GoodIn wsL_locks wsX2_isLocked := goodIn_r _ [96, 20, 250, 251, 252, 253, 254, 255, 256, 257, 258, 259, 260, 261, 262, 263] rfl (by decide +kernel)
set_option maxRecDepth 20000 in
theorem gL_locks_X2_isLocked : GoodIn wsL_locks (wsV RL 75 RX2 yX2_isLocked wsX2_isLocked) := goodIn_app (goodIn_of _ (by decide +kernel)) ggL_locks_X2_isLocked
set_option maxRecDepth 200000 in
theorem ggL_locks_X2_foretold : GoodIn wsL_locks wsX2_foretold := goodIn_ca (goodIn_r _ [100, 101, 102, 103, 3, 104, 105, 106, 107, 108, 109, 110, 16, 111, 112, 113, 114, 20, 115, 116, 117, 118, 119, 250, 251, 252, 253, 254, 255, 256, 257, 258, 264, 265, 266, 267, 268, 269, 270, 271, 259, 260, 261, 262, 263] rfl (by decide +kernel)) (goodIn_sub (fun _ h => List.mem_cons_of_mem _ (List.mem_append_left _ (List.mem_append_right _ h))) (by decide +kernel))
set_option maxRecDepth 20000 in
theorem gL_locks_X2_foretold : GoodIn wsL_locks (wsV RL 57 RX2 yX2_foretold wsX2_foretold) := goodIn_app (goodIn_of _ (by decide +kernel)) ggL_locks_X2_foretold
set_option maxRecDepth 200000 in
theorem ggL_locks_L_refuses : GoodIn wsL_locks wsL_refuses := goodIn_ca (goodIn_ca (goodIn_ca (goodIn_ca (goodIn_r _ [122, 123, 124, 125, 126, 127, 3, 128, 129, 130, 131, 132, 16, 133, 134, 135, 136, 137, 138, 139, 140, 23, 22, 107, 108, 109, 110, 141, 29, 142, 143, 49, 144, 145, 146, 147, 148, 149, 150, 151, 24, 25, 59, 60, 61, 152, 153, 154, 44, 45, 43, 155, 156, 157, 158, 159, 46, 47, 160, 161, 162, 163, 164, 165, 166, 167, 168, 169, 170, 171, 172, 173, 174, 175, 27, 93, 94, 95, 96, 20, 176, 177, 71, 178, 73, 74, 50, 51, 52, 53, 54, 55, 56, 57, 58, 21, 62, 63, 64, 65, 66, 67, 68, 42, 48, 179, 180, 181, 182, 183, 184, 185, 186, 101, 102, 103, 104, 105, 106, 187, 188, 189, 190, 82, 83, 84, 85, 191, 192, 193, 194, 195, 196, 197, 198, 199, 200, 201, 202, 203, 204, 205, 206, 207, 208, 209, 210, 211, 212, 213, 214, 26, 111, 112, 113, 114, 115, 116, 117, 118, 119, 215, 216, 217, 90, 19, 91, 92, 38, 218, 219, 220, 221, 222, 223, 224, 225, 226, 227, 228, 229, 35, 34, 230, 231, 232, 233, 37, 36, 234, 235, 236, 237, 238, 239, 240, 241, 242, 243, 244, 245, 246, 247, 248, 249, 97, 98, 99, 100, 69, 70, 72, 75, 76, 77, 78, 79, 80, 81, 86, 87, 88, 89, 250, 251, 252, 253, 254, 255, 256, 257, 258, 264, 265, 266, 267, 268, 269, 270, 271, 259, 260, 261, 262, 263] rfl (by decide +kernel)) (goodIn_sub (fun _ h => List.mem_cons_of_mem _ (List.mem_append_left _ (List.mem_append_left _ (List.mem_append_left _ (List.mem_append_right _ h))))) (by decide +kernel))) (goodIn_sub (fun _ h => List.mem_cons_of_mem _ (List.mem_append_left _ (List.mem_append_left _ (List.mem_append_right _ h)))) (by decide +kernel))) (goodIn_sub (fun _ h => List.mem_cons_of_mem _ (List.mem_append_left _ (List.mem_append_right _ h))) (by decide +kernel))) (goodIn_sub (fun _ h => List.mem_cons_of_mem _ (List.mem_append_right _ h)) (by decide +kernel))
set_option maxRecDepth 20000 in
theorem gL_locks_L_refuses : GoodIn wsL_locks (va_wsS RL 105 yL_refuses wsL_refuses) := goodIn_app (goodIn_of _ (by decide +kernel)) ggL_locks_L_refuses
set_option maxRecDepth 200000 in
theorem ggL_locks_X2_chooseOnce : GoodIn wsL_locks wsX2_chooseOnce := goodIn_ca (goodIn_r _ [202, 23, 195, 196, 197, 3, 198, 105, 106, 107, 108, 109, 110, 16, 250, 251, 252, 253, 254, 255, 256, 257, 258, 264, 265, 266, 267, 268, 269, 270, 271] rfl (by decide +kernel)) (goodIn_sub (fun _ h => List.mem_cons_of_mem _ (List.mem_append_left _ (List.mem_append_right _ h))) (by decide +kernel))
set_option maxRecDepth 20000 in
theorem gL_locks_X2_chooseOnce : GoodIn wsL_locks (wsV RL 28 RX2 yX2_chooseOnce wsX2_chooseOnce) := goodIn_app (goodIn_of _ (by decide +kernel)) ggL_locks_X2_chooseOnce
set_option maxRecDepth 200000 in
theorem ggL_locks_X2_enter : GoodIn wsL_locks wsX2_enter := goodIn_ca (goodIn_ca (goodIn_r _ [225, 54, 55, 20, 59, 60, 3, 61, 226, 19, 227, 228, 229, 57, 35, 38, 34, 230, 231, 232, 233, 37, 36, 250, 251, 252, 253, 254, 255, 256, 257, 258, 259, 260, 261, 262, 263] rfl (by decide +kernel)) (goodIn_sub (fun _ h => List.mem_cons_of_mem _ (List.mem_append_left _ (List.mem_append_left _ (List.mem_append_left _ (List.mem_append_right _ h))))) (by decide +kernel))) (goodIn_sub (fun _ h => List.mem_cons_of_mem _ (List.mem_append_right _ h)) (by decide +kernel))
set_option maxRecDepth 20000 in
theorem gL_locks_X2_enter : GoodIn wsL_locks (wsV RL 41 RX2 yX2_enter wsX2_enter) := goodIn_app (goodIn_of _ (by decide +kernel)) ggL_locks_X2_enter
set_option maxRecDepth 200000 in
theorem ggL_locks_X2_edit : GoodIn wsL_locks wsX2_edit := goodIn_ca (goodIn_ca (goodIn_ca (goodIn_r _ [190, 54, 55, 101, 102, 103, 3, 104, 105, 106, 107, 108, 109, 110, 16, 59, 60, 61, 82, 83, 84, 85, 56, 57, 20, 264, 265, 266, 267, 268, 269, 270, 271, 250, 251, 252, 253, 254, 255, 256, 257, 258, 259, 260, 261, 262, 263] rfl (by decide +kernel)) (goodIn_sub (fun _ h => List.mem_cons_of_mem _ (List.mem_append_left _ (List.mem_append_left _ (List.mem_append_left _ (List.mem_append_right _ h))))) (by decide +kernel))) (goodIn_sub (fun _ h => List.mem_cons_of_mem _ (List.mem_append_left _ (List.mem_append_right _ h))) (by decide +kernel))) (goodIn_sub (fun _ h => List.mem_cons_of_mem _ (List.mem_append_left _ (List.mem_append_left _ (List.mem_append_right _ h)))) (by decide +kernel))
set_option maxRecDepth 20000 in
theorem gL_locks_X2_edit : GoodIn wsL_locks (wsV RL 21 RX2 yX2_edit wsX2_edit) := goodIn_app (goodIn_of _ (by decide +kernel)) ggL_locks_X2_edit
set_option maxRecDepth 200000 in
theorem ggL_locks_L_act : GoodIn wsL_locks wsL_act := goodIn_ca (goodIn_ca (goodIn_ca (goodIn_ca (goodIn_r _ [181, 182, 73, 74, 183, 184, 185, 3, 186, 101, 102, 103, 104, 105, 106, 107, 108, 109, 110, 16, 129, 130, 131, 132, 187, 188, 189, 190, 54, 55, 59, 60, 61, 82, 83, 84, 85, 56, 57, 20, 191, 192, 193, 194, 22, 195, 196, 197, 198, 199, 200, 201, 202, 23, 203, 204, 205, 206, 24, 25, 207, 208, 209, 210, 148, 149, 150, 151, 211, 212, 213, 214, 27, 26, 137, 138, 139, 140, 141, 29, 142, 143, 49, 144, 145, 146, 147, 152, 153, 154, 44, 45, 43, 155, 156, 157, 158, 159, 46, 47, 160, 161, 162, 163, 164, 165, 166, 167, 168, 169, 170, 171, 111, 112, 113, 114, 115, 116, 117, 118, 119, 215, 216, 217, 90, 19, 91, 92, 38, 218, 219, 220, 221, 222, 223, 224, 225, 226, 227, 228, 229, 35, 34, 230, 231, 232, 233, 37, 36, 234, 235, 236, 237, 238, 239, 240, 241, 242, 243, 244, 245, 246, 247, 248, 249, 97, 98, 99, 100, 264, 265, 266, 267, 268, 269, 270, 271, 250, 251, 252, 253, 254, 255, 256, 257, 258, 259, 260, 261, 262, 263] rfl (by decide +kernel)) (goodIn_sub (fun _ h => List.mem_cons_of_mem _ (List.mem_append_left _ (List.mem_append_right _ h))) (by decide +kernel))) (goodIn_sub (fun _ h => List.mem_cons_of_mem _ (List.mem_append_left _ (List.mem_append_left _ (List.mem_append_left _ (List.mem_append_right _ h))))) (by decide +kernel))) (goodIn_sub (fun _ h => List.mem_cons_of_mem _ (List.mem_append_left _ (List.mem_append_left _ (List.mem_append_right _ h)))) (by decide +kernel))) (goodIn_sub (fun _ h => List.mem_cons_of_mem _ (List.mem_append_right _ h)) (by decide +kernel))
set_option maxRecDepth 20000 in
theorem gL_locks_L_act : GoodIn wsL_locks (va_wsS RL 86 yL_act wsL_act) := goodIn_app (goodIn_of _ (by decide +kernel)) ggL_locks_L_act
set_option maxRecDepth 200000 in
theorem ggL_locks_X2_start : GoodIn wsL_locks wsX2_start := goodIn_ca (goodIn_r _ [214, 56, 57, 27, 23, 26, 20, 137, 138, 139, 3, 140, 22, 107, 108, 109, 110, 16, 141, 29, 142, 143, 49, 144, 145, 146, 147, 148, 149, 150, 151, 24, 25, 59, 60, 61, 152, 153, 154, 44, 45, 43, 155, 156, 157, 158, 159, 46, 47, 160, 161, 162, 163, 164, 165, 166, 167, 168, 169, 170, 171, 111, 112, 113, 114, 115, 116, 117, 118, 119, 215, 216, 217, 90, 19, 91, 92, 38, 250, 251, 252, 253, 254, 255, 256, 257, 258, 264, 265, 266, 267, 268, 269, 270, 271, 259, 260, 261, 262, 263] rfl (by decide +kernel)) (goodIn_sub (fun _ h => List.mem_cons_of_mem _ (List.mem_append_left _ (List.mem_append_left _ (List.mem_append_right _ h)))) (by decide +kernel))
set_option maxRecDepth 20000 in
theorem gL_locks_X2_start : GoodIn wsL_locks (wsV RL 34 RX2 yX2_start wsX2_start) := goodIn_app (goodIn_of _ (by decide +kernel)) ggL_locks_X2_start
set_option maxRecDepth 200000 in
theorem ggL_locks_X2_register : GoodIn wsL_locks wsX2_register := goodIn_r _ [175, 27, 250, 251, 252, 253, 254, 255, 256, 257, 258] rfl (by decide +kernel)
set_option maxRecDepth 20000 in
theorem gL_locks_X2_register : GoodIn wsL_locks (wsV RL 72 RX2 yX2_register wsX2_register) := goodIn_app (goodIn_of _ (by decide +kernel)) ggL_locks_X2_register
theorem dL_locks_0 : decode cL_locks 0 = .ok (.new 8, 3) := by decide +kernel
theorem dL_locks_3 : decode cL_locks 3 = .ok (.dup, 1) := by decide +kernel
theorem dL_locks_4 : decode cL_locks 4 = .ok (.invokespecial 93, 3) := by decide +kernel
theorem dL_locks_7 : decode cL_locks 7 = .ok (.astore_n 0, 1) := by decide +kernel
theorem dL_locks_8 : decode cL_locks 8 = .ok (.aload_n 0, 1) := by decide +kernel
theorem dL_locks_9 : decode cL_locks 9 = .ok (.iconst 0, 1) := by decide +kernel
theorem dL_locks_10 : decode cL_locks 10 = .ok (.iconst 5, 1) := by decide +kernel
theorem dL_locks_11 : decode cL_locks 11 = .ok (.ldc 97, 2) := by decide +kernel
theorem dL_locks_13 : decode cL_locks 13 = .ok (.iconst 1, 1) := by decide +kernel
theorem dL_locks_14 : decode cL_locks 14 = .ok (.iconst (-1), 1) := by decide +kernel
theorem dL_locks_15 : decode cL_locks 15 = .ok (.invokevirtual 62, 3) := by decide +kernel
theorem dL_locks_18 : decode cL_locks 18 = .ok (.ifCond .ne 138, 3) := by decide +kernel
theorem dL_locks_21 : decode cL_locks 21 = .ok (.aload_n 0, 1) := by decide +kernel
theorem dL_locks_22 : decode cL_locks 22 = .ok (.bipush 12, 2) := by decide +kernel
theorem dL_locks_24 : decode cL_locks 24 = .ok (.iconst 3, 1) := by decide +kernel
theorem dL_locks_25 : decode cL_locks 25 = .ok (.invokestatic 90, 3) := by decide +kernel
theorem dL_locks_28 : decode cL_locks 28 = .ok (.ifCond .ne 128, 3) := by decide +kernel
theorem dL_locks_31 : decode cL_locks 31 = .ok (.aload_n 0, 1) := by decide +kernel
theorem dL_locks_32 : decode cL_locks 32 = .ok (.invokevirtual 75, 3) := by decide +kernel
theorem dL_locks_35 : decode cL_locks 35 = .ok (.ifCond .eq 121, 3) := by decide +kernel
theorem dL_locks_38 : decode cL_locks 38 = .ok (.aload_n 0, 1) := by decide +kernel
theorem dL_locks_39 : decode cL_locks 39 = .ok (.iconst 0, 1) := by decide +kernel
theorem dL_locks_40 : decode cL_locks 40 = .ok (.invokevirtual 57, 3) := by decide +kernel
theorem dL_locks_43 : decode cL_locks 43 = .ok (.ldc 109, 2) := by decide +kernel
theorem dL_locks_45 : decode cL_locks 45 = .ok (.if_icmp .ne 111, 3) := by decide +kernel
theorem dL_locks_48 : decode cL_locks 48 = .ok (.aload_n 0, 1) := by decide +kernel
theorem dL_locks_49 : decode cL_locks 49 = .ok (.iconst 0, 1) := by decide +kernel
theorem dL_locks_50 : decode cL_locks 50 = .ok (.iconst 1, 1) := by decide +kernel
theorem dL_locks_51 : decode cL_locks 51 = .ok (.invokestatic 105, 3) := by decide +kernel
theorem dL_locks_54 : decode cL_locks 54 = .ok (.ifCond .eq 102, 3) := by decide +kernel
theorem dL_locks_57 : decode cL_locks 57 = .ok (.aload_n 0, 1) := by decide +kernel
theorem dL_locks_58 : decode cL_locks 58 = .ok (.iconst 0, 1) := by decide +kernel
theorem dL_locks_59 : decode cL_locks 59 = .ok (.invokevirtual 28, 3) := by decide +kernel
theorem dL_locks_62 : decode cL_locks 62 = .ok (.iconst (-1), 1) := by decide +kernel
theorem dL_locks_63 : decode cL_locks 63 = .ok (.if_icmp .ne 93, 3) := by decide +kernel
theorem dL_locks_66 : decode cL_locks 66 = .ok (.aload_n 0, 1) := by decide +kernel
theorem dL_locks_67 : decode cL_locks 67 = .ok (.iconst 0, 1) := by decide +kernel
theorem dL_locks_68 : decode cL_locks 68 = .ok (.invokevirtual 41, 3) := by decide +kernel
theorem dL_locks_71 : decode cL_locks 71 = .ok (.ifCond .ne 85, 3) := by decide +kernel
theorem dL_locks_74 : decode cL_locks 74 = .ok (.aload_n 0, 1) := by decide +kernel
theorem dL_locks_75 : decode cL_locks 75 = .ok (.iconst 0, 1) := by decide +kernel
theorem dL_locks_76 : decode cL_locks 76 = .ok (.invokevirtual 41, 3) := by decide +kernel
theorem dL_locks_79 : decode cL_locks 79 = .ok (.ifCond .ne 77, 3) := by decide +kernel
theorem dL_locks_82 : decode cL_locks 82 = .ok (.aload_n 0, 1) := by decide +kernel
theorem dL_locks_83 : decode cL_locks 83 = .ok (.iconst 1, 1) := by decide +kernel
theorem dL_locks_84 : decode cL_locks 84 = .ok (.invokevirtual 41, 3) := by decide +kernel
theorem dL_locks_87 : decode cL_locks 87 = .ok (.ifCond .ne 69, 3) := by decide +kernel
theorem dL_locks_90 : decode cL_locks 90 = .ok (.aload_n 0, 1) := by decide +kernel
theorem dL_locks_91 : decode cL_locks 91 = .ok (.iconst 2, 1) := by decide +kernel
theorem dL_locks_92 : decode cL_locks 92 = .ok (.invokevirtual 41, 3) := by decide +kernel
theorem dL_locks_95 : decode cL_locks 95 = .ok (.ifCond .eq 61, 3) := by decide +kernel
theorem dL_locks_98 : decode cL_locks 98 = .ok (.aload_n 0, 1) := by decide +kernel
theorem dL_locks_99 : decode cL_locks 99 = .ok (.invokevirtual 75, 3) := by decide +kernel
theorem dL_locks_102 : decode cL_locks 102 = .ok (.ifCond .ne 54, 3) := by decide +kernel
theorem dL_locks_105 : decode cL_locks 105 = .ok (.aload_n 0, 1) := by decide +kernel
theorem dL_locks_106 : decode cL_locks 106 = .ok (.iconst 0, 1) := by decide +kernel
theorem dL_locks_107 : decode cL_locks 107 = .ok (.invokevirtual 57, 3) := by decide +kernel
theorem dL_locks_110 : decode cL_locks 110 = .ok (.ldc 104, 2) := by decide +kernel
theorem dL_locks_112 : decode cL_locks 112 = .ok (.if_icmp .ne 44, 3) := by decide +kernel
theorem dL_locks_115 : decode cL_locks 115 = .ok (.aload_n 0, 1) := by decide +kernel
theorem dL_locks_116 : decode cL_locks 116 = .ok (.iconst 0, 1) := by decide +kernel
theorem dL_locks_117 : decode cL_locks 117 = .ok (.bipush 99, 2) := by decide +kernel
theorem dL_locks_119 : decode cL_locks 119 = .ok (.invokevirtual 21, 3) := by decide +kernel
theorem dL_locks_122 : decode cL_locks 122 = .ok (.ifCond .ne 34, 3) := by decide +kernel
theorem dL_locks_125 : decode cL_locks 125 = .ok (.aload_n 0, 1) := by decide +kernel
theorem dL_locks_126 : decode cL_locks 126 = .ok (.iconst 0, 1) := by decide +kernel
theorem dL_locks_127 : decode cL_locks 127 = .ok (.invokevirtual 57, 3) := by decide +kernel
theorem dL_locks_130 : decode cL_locks 130 = .ok (.ldc 110, 2) := by decide +kernel
theorem dL_locks_132 : decode cL_locks 132 = .ok (.if_icmp .ne 24, 3) := by decide +kernel
theorem dL_locks_135 : decode cL_locks 135 = .ok (.aload_n 0, 1) := by decide +kernel
theorem dL_locks_136 : decode cL_locks 136 = .ok (.iconst 0, 1) := by decide +kernel
theorem dL_locks_137 : decode cL_locks 137 = .ok (.iconst 0, 1) := by decide +kernel
theorem dL_locks_138 : decode cL_locks 138 = .ok (.invokevirtual 21, 3) := by decide +kernel
theorem dL_locks_141 : decode cL_locks 141 = .ok (.bipush 99, 2) := by decide +kernel
theorem dL_locks_143 : decode cL_locks 143 = .ok (.if_icmp .ne 13, 3) := by decide +kernel
theorem dL_locks_146 : decode cL_locks 146 = .ok (.aload_n 0, 1) := by decide +kernel
theorem dL_locks_147 : decode cL_locks 147 = .ok (.bipush 7, 2) := by decide +kernel
theorem dL_locks_149 : decode cL_locks 149 = .ok (.iconst 1, 1) := by decide +kernel
theorem dL_locks_150 : decode cL_locks 150 = .ok (.invokestatic 90, 3) := by decide +kernel
theorem dL_locks_153 : decode cL_locks 153 = .ok (.ifCond .eq 5, 3) := by decide +kernel
theorem dL_locks_156 : decode cL_locks 156 = .ok (.iconst 0, 1) := by decide +kernel
theorem dL_locks_157 : decode cL_locks 157 = .ok (.ireturn, 1) := by decide +kernel
theorem dL_locks_158 : decode cL_locks 158 = .ok (.iconst 0, 1) := by decide +kernel
theorem dL_locks_159 : decode cL_locks 159 = .ok (.istore_n 1, 1) := by decide +kernel
theorem dL_locks_160 : decode cL_locks 160 = .ok (.iload_n 1, 1) := by decide +kernel
theorem dL_locks_161 : decode cL_locks 161 = .ok (.bipush 12, 2) := by decide +kernel
theorem dL_locks_163 : decode cL_locks 163 = .ok (.if_icmp .ge 22, 3) := by decide +kernel
theorem dL_locks_166 : decode cL_locks 166 = .ok (.aload_n 0, 1) := by decide +kernel
theorem dL_locks_167 : decode cL_locks 167 = .ok (.iload_n 1, 1) := by decide +kernel
theorem dL_locks_168 : decode cL_locks 168 = .ok (.bipush 7, 2) := by decide +kernel
theorem dL_locks_170 : decode cL_locks 170 = .ok (.irem, 1) := by decide +kernel
theorem dL_locks_171 : decode cL_locks 171 = .ok (.invokevirtual 41, 3) := by decide +kernel
theorem dL_locks_174 : decode cL_locks 174 = .ok (.ifCond .eq 5, 3) := by decide +kernel
theorem dL_locks_177 : decode cL_locks 177 = .ok (.iconst 0, 1) := by decide +kernel
theorem dL_locks_178 : decode cL_locks 178 = .ok (.ireturn, 1) := by decide +kernel
theorem dL_locks_179 : decode cL_locks 179 = .ok (.iinc 1 1, 3) := by decide +kernel
theorem dL_locks_182 : decode cL_locks 182 = .ok (.goto (-22), 3) := by decide +kernel
theorem dL_locks_185 : decode cL_locks 185 = .ok (.aload_n 0, 1) := by decide +kernel
theorem dL_locks_186 : decode cL_locks 186 = .ok (.bipush 7, 2) := by decide +kernel
theorem dL_locks_188 : decode cL_locks 188 = .ok (.bipush 7, 2) := by decide +kernel
theorem dL_locks_190 : decode cL_locks 190 = .ok (.iconst 0, 1) := by decide +kernel
theorem dL_locks_191 : decode cL_locks 191 = .ok (.invokestatic 86, 3) := by decide +kernel
theorem dL_locks_194 : decode cL_locks 194 = .ok (.bipush (-73), 2) := by decide +kernel
theorem dL_locks_196 : decode cL_locks 196 = .ok (.if_icmp .ne 136, 3) := by decide +kernel
theorem dL_locks_199 : decode cL_locks 199 = .ok (.aload_n 0, 1) := by decide +kernel
theorem dL_locks_200 : decode cL_locks 200 = .ok (.invokevirtual 75, 3) := by decide +kernel
theorem dL_locks_203 : decode cL_locks 203 = .ok (.ifCond .eq 129, 3) := by decide +kernel
theorem dL_locks_206 : decode cL_locks 206 = .ok (.aload_n 0, 1) := by decide +kernel
theorem dL_locks_207 : decode cL_locks 207 = .ok (.invokevirtual 34, 3) := by decide +kernel
theorem dL_locks_210 : decode cL_locks 210 = .ok (.ifCond .ne 122, 3) := by decide +kernel
theorem dL_locks_213 : decode cL_locks 213 = .ok (.aload_n 0, 1) := by decide +kernel
theorem dL_locks_214 : decode cL_locks 214 = .ok (.invokevirtual 72, 3) := by decide +kernel
theorem dL_locks_217 : decode cL_locks 217 = .ok (.ldc 109, 2) := by decide +kernel
theorem dL_locks_219 : decode cL_locks 219 = .ok (.if_icmp .ne 113, 3) := by decide +kernel
theorem dL_locks_222 : decode cL_locks 222 = .ok (.aload_n 0, 1) := by decide +kernel
theorem dL_locks_223 : decode cL_locks 223 = .ok (.bipush 7, 2) := by decide +kernel
theorem dL_locks_225 : decode cL_locks 225 = .ok (.invokevirtual 41, 3) := by decide +kernel
theorem dL_locks_228 : decode cL_locks 228 = .ok (.ifCond .eq 104, 3) := by decide +kernel
theorem dL_locks_231 : decode cL_locks 231 = .ok (.aload_n 0, 1) := by decide +kernel
theorem dL_locks_232 : decode cL_locks 232 = .ok (.bipush 7, 2) := by decide +kernel
theorem dL_locks_234 : decode cL_locks 234 = .ok (.bipush 7, 2) := by decide +kernel
theorem dL_locks_236 : decode cL_locks 236 = .ok (.iconst 0, 1) := by decide +kernel
theorem dL_locks_237 : decode cL_locks 237 = .ok (.invokestatic 86, 3) := by decide +kernel
theorem dL_locks_240 : decode cL_locks 240 = .ok (.bipush (-73), 2) := by decide +kernel
theorem dL_locks_242 : decode cL_locks 242 = .ok (.if_icmp .ne 90, 3) := by decide +kernel
theorem dL_locks_245 : decode cL_locks 245 = .ok (.aload_n 0, 1) := by decide +kernel
theorem dL_locks_246 : decode cL_locks 246 = .ok (.bipush 12, 2) := by decide +kernel
theorem dL_locks_248 : decode cL_locks 248 = .ok (.iconst 2, 1) := by decide +kernel
theorem dL_locks_249 : decode cL_locks 249 = .ok (.invokestatic 90, 3) := by decide +kernel
theorem dL_locks_252 : decode cL_locks 252 = .ok (.ifCond .ne 80, 3) := by decide +kernel
theorem dL_locks_255 : decode cL_locks 255 = .ok (.aload_n 0, 1) := by decide +kernel
theorem dL_locks_256 : decode cL_locks 256 = .ok (.iconst 1, 1) := by decide +kernel
theorem dL_locks_257 : decode cL_locks 257 = .ok (.invokevirtual 41, 3) := by decide +kernel
theorem dL_locks_260 : decode cL_locks 260 = .ok (.ifCond .ne 72, 3) := by decide +kernel
theorem dL_locks_263 : decode cL_locks 263 = .ok (.aload_n 0, 1) := by decide +kernel
theorem dL_locks_264 : decode cL_locks 264 = .ok (.invokevirtual 34, 3) := by decide +kernel
theorem dL_locks_267 : decode cL_locks 267 = .ok (.ifCond .ne 65, 3) := by decide +kernel
theorem dL_locks_270 : decode cL_locks 270 = .ok (.aload_n 0, 1) := by decide +kernel
theorem dL_locks_271 : decode cL_locks 271 = .ok (.iconst 2, 1) := by decide +kernel
theorem dL_locks_272 : decode cL_locks 272 = .ok (.invokevirtual 41, 3) := by decide +kernel
theorem dL_locks_275 : decode cL_locks 275 = .ok (.ifCond .ne 57, 3) := by decide +kernel
theorem dL_locks_278 : decode cL_locks 278 = .ok (.aload_n 0, 1) := by decide +kernel
theorem dL_locks_279 : decode cL_locks 279 = .ok (.iconst 1, 1) := by decide +kernel
theorem dL_locks_280 : decode cL_locks 280 = .ok (.invokevirtual 41, 3) := by decide +kernel
theorem dL_locks_283 : decode cL_locks 283 = .ok (.ifCond .ne 49, 3) := by decide +kernel
theorem dL_locks_286 : decode cL_locks 286 = .ok (.aload_n 0, 1) := by decide +kernel
theorem dL_locks_287 : decode cL_locks 287 = .ok (.iconst 2, 1) := by decide +kernel
theorem dL_locks_288 : decode cL_locks 288 = .ok (.invokevirtual 41, 3) := by decide +kernel
theorem dL_locks_291 : decode cL_locks 291 = .ok (.ifCond .eq 41, 3) := by decide +kernel
theorem dL_locks_294 : decode cL_locks 294 = .ok (.aload_n 0, 1) := by decide +kernel
theorem dL_locks_295 : decode cL_locks 295 = .ok (.invokevirtual 34, 3) := by decide +kernel
theorem dL_locks_298 : decode cL_locks 298 = .ok (.ifCond .ne 34, 3) := by decide +kernel
theorem dL_locks_301 : decode cL_locks 301 = .ok (.aload_n 0, 1) := by decide +kernel
theorem dL_locks_302 : decode cL_locks 302 = .ok (.invokevirtual 72, 3) := by decide +kernel
theorem dL_locks_305 : decode cL_locks 305 = .ok (.ldc 104, 2) := by decide +kernel
theorem dL_locks_307 : decode cL_locks 307 = .ok (.if_icmp .ne 25, 3) := by decide +kernel
theorem dL_locks_310 : decode cL_locks 310 = .ok (.aload_n 0, 1) := by decide +kernel
theorem dL_locks_311 : decode cL_locks 311 = .ok (.iconst 0, 1) := by decide +kernel
theorem dL_locks_312 : decode cL_locks 312 = .ok (.bipush 6, 2) := by decide +kernel
theorem dL_locks_314 : decode cL_locks 314 = .ok (.invokestatic 90, 3) := by decide +kernel
theorem dL_locks_317 : decode cL_locks 317 = .ok (.ifCond .ne 15, 3) := by decide +kernel
theorem dL_locks_320 : decode cL_locks 320 = .ok (.aload_n 0, 1) := by decide +kernel
theorem dL_locks_321 : decode cL_locks 321 = .ok (.iconst 0, 1) := by decide +kernel
theorem dL_locks_322 : decode cL_locks 322 = .ok (.bipush 6, 2) := by decide +kernel
theorem dL_locks_324 : decode cL_locks 324 = .ok (.invokestatic 90, 3) := by decide +kernel
theorem dL_locks_327 : decode cL_locks 327 = .ok (.bipush (-73), 2) := by decide +kernel
theorem dL_locks_329 : decode cL_locks 329 = .ok (.if_icmp .eq 5, 3) := by decide +kernel
theorem dL_locks_332 : decode cL_locks 332 = .ok (.iconst 0, 1) := by decide +kernel
theorem dL_locks_333 : decode cL_locks 333 = .ok (.ireturn, 1) := by decide +kernel
theorem dL_locks_334 : decode cL_locks 334 = .ok (.iconst 0, 1) := by decide +kernel
theorem dL_locks_335 : decode cL_locks 335 = .ok (.istore_n 1, 1) := by decide +kernel
theorem dL_locks_336 : decode cL_locks 336 = .ok (.iload_n 1, 1) := by decide +kernel
theorem dL_locks_337 : decode cL_locks 337 = .ok (.bipush 6, 2) := by decide +kernel
theorem dL_locks_339 : decode cL_locks 339 = .ok (.if_icmp .ge 29, 3) := by decide +kernel
theorem dL_locks_342 : decode cL_locks 342 = .ok (.aload_n 0, 1) := by decide +kernel
theorem dL_locks_343 : decode cL_locks 343 = .ok (.iconst 0, 1) := by decide +kernel
theorem dL_locks_344 : decode cL_locks 344 = .ok (.invokevirtual 41, 3) := by decide +kernel
theorem dL_locks_347 : decode cL_locks 347 = .ok (.iload_n 1, 1) := by decide +kernel
theorem dL_locks_348 : decode cL_locks 348 = .ok (.iconst 5, 1) := by decide +kernel
theorem dL_locks_349 : decode cL_locks 349 = .ok (.if_icmp .ne 7, 3) := by decide +kernel
theorem dL_locks_352 : decode cL_locks 352 = .ok (.iconst 1, 1) := by decide +kernel
theorem dL_locks_353 : decode cL_locks 353 = .ok (.goto 4, 3) := by decide +kernel
theorem dL_locks_356 : decode cL_locks 356 = .ok (.iconst 0, 1) := by decide +kernel
theorem dL_locks_357 : decode cL_locks 357 = .ok (.if_icmp .eq 5, 3) := by decide +kernel
theorem dL_locks_360 : decode cL_locks 360 = .ok (.iconst 0, 1) := by decide +kernel
theorem dL_locks_361 : decode cL_locks 361 = .ok (.ireturn, 1) := by decide +kernel
theorem dL_locks_362 : decode cL_locks 362 = .ok (.iinc 1 1, 3) := by decide +kernel
theorem dL_locks_365 : decode cL_locks 365 = .ok (.goto (-29), 3) := by decide +kernel
theorem dL_locks_368 : decode cL_locks 368 = .ok (.aload_n 0, 1) := by decide +kernel
theorem dL_locks_369 : decode cL_locks 369 = .ok (.ldc 111, 2) := by decide +kernel
theorem dL_locks_371 : decode cL_locks 371 = .ok (.bipush 6, 2) := by decide +kernel
theorem dL_locks_373 : decode cL_locks 373 = .ok (.invokestatic 90, 3) := by decide +kernel
theorem dL_locks_376 : decode cL_locks 376 = .ok (.ifCond .ne 11, 3) := by decide +kernel
theorem dL_locks_379 : decode cL_locks 379 = .ok (.aload_n 0, 1) := by decide +kernel
theorem dL_locks_380 : decode cL_locks 380 = .ok (.iconst 5, 1) := by decide +kernel
theorem dL_locks_381 : decode cL_locks 381 = .ok (.invokevirtual 41, 3) := by decide +kernel
theorem dL_locks_384 : decode cL_locks 384 = .ok (.ifCond .eq 5, 3) := by decide +kernel
theorem dL_locks_387 : decode cL_locks 387 = .ok (.iconst 0, 1) := by decide +kernel
theorem dL_locks_388 : decode cL_locks 388 = .ok (.ireturn, 1) := by decide +kernel
theorem dL_locks_389 : decode cL_locks 389 = .ok (.iconst 0, 1) := by decide +kernel
theorem dL_locks_390 : decode cL_locks 390 = .ok (.istore_n 1, 1) := by decide +kernel
theorem dL_locks_391 : decode cL_locks 391 = .ok (.iload_n 1, 1) := by decide +kernel
theorem dL_locks_392 : decode cL_locks 392 = .ok (.bipush 6, 2) := by decide +kernel
theorem dL_locks_394 : decode cL_locks 394 = .ok (.if_icmp .ge 30, 3) := by decide +kernel
theorem dL_locks_397 : decode cL_locks 397 = .ok (.aload_n 0, 1) := by decide +kernel
theorem dL_locks_398 : decode cL_locks 398 = .ok (.bipush 9, 2) := by decide +kernel
theorem dL_locks_400 : decode cL_locks 400 = .ok (.invokevirtual 41, 3) := by decide +kernel
theorem dL_locks_403 : decode cL_locks 403 = .ok (.iload_n 1, 1) := by decide +kernel
theorem dL_locks_404 : decode cL_locks 404 = .ok (.iconst 5, 1) := by decide +kernel
theorem dL_locks_405 : decode cL_locks 405 = .ok (.if_icmp .ne 7, 3) := by decide +kernel
theorem dL_locks_408 : decode cL_locks 408 = .ok (.iconst 1, 1) := by decide +kernel
theorem dL_locks_409 : decode cL_locks 409 = .ok (.goto 4, 3) := by decide +kernel
theorem dL_locks_412 : decode cL_locks 412 = .ok (.iconst 0, 1) := by decide +kernel
theorem dL_locks_413 : decode cL_locks 413 = .ok (.if_icmp .eq 5, 3) := by decide +kernel
theorem dL_locks_416 : decode cL_locks 416 = .ok (.iconst 0, 1) := by decide +kernel
theorem dL_locks_417 : decode cL_locks 417 = .ok (.ireturn, 1) := by decide +kernel
theorem dL_locks_418 : decode cL_locks 418 = .ok (.iinc 1 1, 3) := by decide +kernel
theorem dL_locks_421 : decode cL_locks 421 = .ok (.goto (-30), 3) := by decide +kernel
theorem dL_locks_424 : decode cL_locks 424 = .ok (.aload_n 0, 1) := by decide +kernel
theorem dL_locks_425 : decode cL_locks 425 = .ok (.iconst 3, 1) := by decide +kernel
theorem dL_locks_426 : decode cL_locks 426 = .ok (.iconst 1, 1) := by decide +kernel
theorem dL_locks_427 : decode cL_locks 427 = .ok (.invokestatic 90, 3) := by decide +kernel
theorem dL_locks_430 : decode cL_locks 430 = .ok (.ifCond .eq 5, 3) := by decide +kernel
theorem dL_locks_433 : decode cL_locks 433 = .ok (.iconst 0, 1) := by decide +kernel
theorem dL_locks_434 : decode cL_locks 434 = .ok (.ireturn, 1) := by decide +kernel
theorem dL_locks_435 : decode cL_locks 435 = .ok (.iconst 0, 1) := by decide +kernel
theorem dL_locks_436 : decode cL_locks 436 = .ok (.istore_n 1, 1) := by decide +kernel
theorem dL_locks_437 : decode cL_locks 437 = .ok (.iload_n 1, 1) := by decide +kernel
theorem dL_locks_438 : decode cL_locks 438 = .ok (.bipush 12, 2) := by decide +kernel
theorem dL_locks_440 : decode cL_locks 440 = .ok (.if_icmp .ge 40, 3) := by decide +kernel
theorem dL_locks_443 : decode cL_locks 443 = .ok (.aload_n 0, 1) := by decide +kernel
theorem dL_locks_444 : decode cL_locks 444 = .ok (.iload_n 1, 1) := by decide +kernel
theorem dL_locks_445 : decode cL_locks 445 = .ok (.bipush 11, 2) := by decide +kernel
theorem dL_locks_447 : decode cL_locks 447 = .ok (.if_icmp .ne 7, 3) := by decide +kernel
theorem dL_locks_450 : decode cL_locks 450 = .ok (.iconst 3, 1) := by decide +kernel
theorem dL_locks_451 : decode cL_locks 451 = .ok (.goto 4, 3) := by decide +kernel
theorem dL_locks_454 : decode cL_locks 454 = .ok (.iconst 4, 1) := by decide +kernel
theorem dL_locks_455 : decode cL_locks 455 = .ok (.invokevirtual 41, 3) := by decide +kernel
theorem dL_locks_458 : decode cL_locks 458 = .ok (.iload_n 1, 1) := by decide +kernel
theorem dL_locks_459 : decode cL_locks 459 = .ok (.bipush 11, 2) := by decide +kernel
theorem dL_locks_461 : decode cL_locks 461 = .ok (.if_icmp .ne 7, 3) := by decide +kernel
theorem dL_locks_464 : decode cL_locks 464 = .ok (.iconst 1, 1) := by decide +kernel
theorem dL_locks_465 : decode cL_locks 465 = .ok (.goto 4, 3) := by decide +kernel
theorem dL_locks_468 : decode cL_locks 468 = .ok (.iconst 0, 1) := by decide +kernel
theorem dL_locks_469 : decode cL_locks 469 = .ok (.if_icmp .eq 5, 3) := by decide +kernel
theorem dL_locks_472 : decode cL_locks 472 = .ok (.iconst 0, 1) := by decide +kernel
theorem dL_locks_473 : decode cL_locks 473 = .ok (.ireturn, 1) := by decide +kernel
theorem dL_locks_474 : decode cL_locks 474 = .ok (.iinc 1 1, 3) := by decide +kernel
theorem dL_locks_477 : decode cL_locks 477 = .ok (.goto (-40), 3) := by decide +kernel
theorem dL_locks_480 : decode cL_locks 480 = .ok (.aload_n 0, 1) := by decide +kernel
theorem dL_locks_481 : decode cL_locks 481 = .ok (.invokevirtual 75, 3) := by decide +kernel
theorem dL_locks_484 : decode cL_locks 484 = .ok (.ifCond .ne 16, 3) := by decide +kernel
theorem dL_locks_487 : decode cL_locks 487 = .ok (.aload_n 0, 1) := by decide +kernel
theorem dL_locks_488 : decode cL_locks 488 = .ok (.iconst 0, 1) := by decide +kernel
theorem dL_locks_489 : decode cL_locks 489 = .ok (.iconst 1, 1) := by decide +kernel
theorem dL_locks_490 : decode cL_locks 490 = .ok (.invokestatic 105, 3) := by decide +kernel
theorem dL_locks_493 : decode cL_locks 493 = .ok (.ifCond .eq 7, 3) := by decide +kernel
theorem dL_locks_496 : decode cL_locks 496 = .ok (.iconst 1, 1) := by decide +kernel
theorem dL_locks_497 : decode cL_locks 497 = .ok (.goto 4, 3) := by decide +kernel
theorem dL_locks_500 : decode cL_locks 500 = .ok (.iconst 0, 1) := by decide +kernel
theorem dL_locks_501 : decode cL_locks 501 = .ok (.ireturn, 1) := by decide +kernel
set_option maxRecDepth 200000 in
theorem ggL_law_L_starts : GoodIn wsL_law wsL_starts := goodIn_ca (goodIn_ca (goodIn_ca (goodIn_ca (goodIn_r _ [8, 0, 1, 2, 9, 10, 11, 12, 13, 14, 15, 16, 17, 18, 19, 20, 21, 22, 23, 24, 25, 26, 27, 28, 29, 30, 31, 32, 33, 34, 35, 36, 37, 38, 39, 40, 41, 42, 43, 44, 45, 46, 47, 48, 49, 50, 51, 52, 53, 54, 55, 56, 57, 58, 59, 60, 61, 62, 63, 64, 65, 66, 67, 68, 69, 70, 71, 72, 73, 74, 75, 76, 77, 78, 79, 80, 81, 82, 83, 84, 85, 86, 87, 88, 89, 90, 91, 92, 93, 94, 95, 96, 97, 98, 99, 100, 101, 102, 103, 104, 105, 106, 107, 108, 109, 110, 111, 112, 113, 114, 115, 116, 117, 118, 119, 120, 121, 7, 122, 123, 124, 125, 126, 127, 128, 129, 130, 131, 132, 133, 134, 135, 136, 137, 138, 139, 140, 141, 142, 143, 144, 145, 146, 147, 148, 149, 150, 151, 152, 153, 154, 155, 156, 157, 158, 159, 160, 161, 162, 163, 164, 165, 166, 167, 168, 169, 170, 171, 172, 173, 174, 175, 176, 177, 178, 179, 180, 181, 182, 183, 184, 185, 186, 187, 188, 189, 190, 191, 192, 193, 194, 195, 196, 197, 198, 199, 200, 201, 202, 203, 204, 205, 206, 207, 208, 209, 210, 211, 212, 213, 214, 215, 216, 217, 218, 219, 220, 221, 222, 223, 224, 225, 226, 227, 228, 229, 230, 231, 232, 233, 234, 235, 236, 237, 238, 239, 240, 241, 242, 243, 244, 245, 246, 247, 248, 249, 250, 251, 252, 253, 254, 255, 256, 257, 258, 259, 266, 267, 268, 269, 270, 271, 272, 273, 274, 275, 276, 277, 278, 279, 280, 281, 282, 283, 284, 285, 286, 287] rfl (by decide +kernel)) (goodIn_sub (fun _ h => List.mem_append_left _ (List.mem_append_left _ (List.mem_append_left _ (List.mem_append_right _ h)))) (by decide +kernel))) (goodIn_sub (fun _ h => List.mem_append_left _ (List.mem_append_left _ (List.mem_append_right _ h))) (by decide +kernel))) (goodIn_sub (fun _ h => List.mem_append_left _ (List.mem_append_right _ h)) (by decide +kernel))) (goodIn_sub (fun _ h => List.mem_append_right _ h) (by decide +kernel))
set_option maxRecDepth 20000 in
theorem gL_law_L_starts : GoodIn wsL_law (va_wsS RL 112 yL_starts wsL_starts) := goodIn_app (goodIn_of _ (by decide +kernel)) ggL_law_L_starts
set_option maxRecDepth 200000 in
theorem ggL_law_L_locks : GoodIn wsL_law wsL_locks := goodIn_ca (goodIn_ca (goodIn_ca (goodIn_ca (goodIn_r _ [262, 0, 1, 2, 9, 263, 12, 264, 265, 13, 14, 15, 16, 17, 18, 19, 20, 21, 22, 23, 24, 25, 26, 27, 28, 29, 30, 31, 32, 33, 34, 35, 36, 37, 38, 39, 40, 41, 42, 43, 44, 45, 46, 47, 48, 49, 50, 51, 52, 53, 223, 224, 225, 226, 140, 141, 146, 147, 227, 85, 86, 87, 228, 229, 230, 231, 232, 233, 234, 246, 247, 7, 248, 124, 125, 249, 250, 251, 252, 253, 254, 255, 142, 143, 144, 145, 256, 257, 258, 259, 184, 185, 186, 116, 117, 118, 119, 219, 220, 221, 222, 130, 131, 132, 133, 134, 135, 70, 71, 72, 73, 172, 173, 174, 175, 176, 177, 178, 179, 180, 238, 239, 240, 241, 242, 54, 55, 56, 57, 58, 59, 60, 61, 62, 63, 64, 65, 66, 67, 68, 69, 74, 75, 76, 77, 78, 79, 80, 81, 82, 83, 84, 88, 89, 90, 91, 92, 93, 94, 95, 96, 97, 98, 99, 100, 101, 102, 103, 104, 105, 106, 107, 112, 113, 114, 115, 243, 244, 245, 120, 121, 122, 123, 126, 127, 128, 129, 136, 137, 138, 139, 148, 149, 150, 151, 152, 153, 154, 155, 156, 157, 158, 159, 160, 161, 162, 163, 164, 165, 166, 167, 168, 169, 170, 171, 181, 182, 183, 187, 188, 189, 190, 191, 192, 193, 194, 195, 196, 197, 198, 199, 200, 201, 202, 203, 204, 205, 206, 207, 208, 209, 210, 211, 212, 213, 214, 215, 216, 217, 218, 266, 267, 268, 269, 270, 271, 272, 273, 274, 275, 276, 277, 278, 279, 280, 281, 282, 283, 284, 285, 286, 287] rfl (by decide +kernel)) (goodIn_sub (fun _ h => List.mem_append_left _ (List.mem_append_left _ (List.mem_append_right _ h))) (by decide +kernel))) (goodIn_sub (fun _ h => List.mem_append_left _ (List.mem_append_right _ h)) (by decide +kernel))) (goodIn_sub (fun _ h => List.mem_append_left _ (List.mem_append_left _ (List.mem_append_left _ (List.mem_append_right _ h)))) (by decide +kernel))) (goodIn_sub (fun _ h => List.mem_append_right _ h) (by decide +kernel))
set_option maxRecDepth 20000 in
theorem gL_law_L_locks : GoodIn wsL_law (va_wsS RL 115 yL_locks wsL_locks) := goodIn_app (goodIn_of _ (by decide +kernel)) ggL_law_L_locks
set_option maxRecDepth 200000 in
theorem ggL_law_X2_init : GoodIn wsL_law wsX2_init := goodIn_r _ [15, 16, 17, 18, 19, 20, 21, 22, 23, 24, 25, 26, 27, 28, 29, 30, 31, 32, 33, 34, 35, 36, 37, 38, 39, 40, 41, 42, 43, 44, 45, 46, 47, 48, 49, 50, 51, 52, 53, 266, 267, 268, 269, 270, 271, 272, 273, 274, 275, 276, 277, 278, 279, 280, 281, 282, 283, 284, 285, 286, 287] rfl (by decide +kernel)
set_option maxRecDepth 20000 in
theorem gL_law_X2_init : GoodIn wsL_law (wsX2_init) := ggL_law_X2_init
set_option maxRecDepth 200000 in
theorem ggL_law_X2_add : GoodIn wsL_law wsX2_add := goodIn_ca (goodIn_ca (goodIn_r _ [226, 140, 141, 146, 147, 227, 25, 85, 86, 2, 87, 228, 229, 230, 231, 20, 232, 33, 233, 234, 46, 47, 48, 49, 50, 51, 52, 53, 266, 267, 268, 269, 270, 271, 272, 273, 274, 280, 281, 282, 283, 284, 285, 286, 287] rfl (by decide +kernel)) (goodIn_sub (fun _ h => List.mem_append_left _ (List.mem_append_left _ (List.mem_append_right _ h))) (by decide +kernel))) (goodIn_sub (fun _ h => List.mem_append_left _ (List.mem_append_right _ h)) (by decide +kernel))
set_option maxRecDepth 20000 in
theorem gL_law_X2_add : GoodIn wsL_law (wsV RL 62 RX2 yX2_add wsX2_add) := goodIn_app (goodIn_of _ (by decide +kernel)) ggL_law_X2_add
set_option maxRecDepth 200000 in
theorem ggL_law_X2_at : GoodIn wsL_law wsX2_at := goodIn_ca (goodIn_r _ [206, 134, 135, 100, 101, 102, 2, 103, 20, 104, 105, 106, 107, 88, 33, 89, 90, 48, 49, 47, 91, 74, 75, 76, 53, 92, 93, 94, 95, 50, 51, 96, 97, 98, 99, 280, 281, 282, 283, 284, 285, 286, 287, 266, 267, 268, 269, 270, 271, 272, 273, 274] rfl (by decide +kernel)) (goodIn_sub (fun _ h => List.mem_append_left _ (List.mem_append_left _ (List.mem_append_left _ (List.mem_append_right _ h)))) (by decide +kernel))
set_option maxRecDepth 20000 in
theorem gL_law_X2_at : GoodIn wsL_law (wsV RL 45 RX2 yX2_at wsX2_at) := goodIn_app (goodIn_of _ (by decide +kernel)) ggL_law_X2_at
set_option maxRecDepth 200000 in
theorem ggL_law_X2_placeOf : GoodIn wsL_law wsX2_placeOf := goodIn_ca (goodIn_r _ [210, 130, 131, 132, 2, 133, 134, 135, 70, 71, 72, 73, 20, 104, 105, 106, 107, 88, 33, 89, 90, 48, 49, 47, 91, 74, 75, 76, 53, 92, 93, 94, 95, 50, 51, 96, 97, 98, 99, 266, 267, 268, 269, 270, 271, 272, 273, 274, 280, 281, 282, 283, 284, 285, 286, 287] rfl (by decide +kernel)) (goodIn_sub (fun _ h => List.mem_append_left _ (List.mem_append_left _ (List.mem_append_left _ (List.mem_append_right _ h)))) (by decide +kernel))
set_option maxRecDepth 20000 in
theorem gL_law_X2_placeOf : GoodIn wsL_law (wsV RL 48 RX2 yX2_placeOf wsX2_placeOf) := goodIn_app (goodIn_of _ (by decide +kernel)) ggL_law_X2_placeOf
set_option maxRecDepth 200000 in
theorem ggL_law_L_refuses : GoodIn wsL_law wsL_refuses := goodIn_ca (goodIn_ca (goodIn_ca (goodIn_ca (goodIn_r _ [240, 241, 242, 54, 55, 56, 2, 57, 58, 59, 60, 61, 20, 62, 63, 64, 65, 66, 67, 68, 69, 27, 26, 70, 71, 72, 73, 74, 33, 75, 76, 53, 77, 78, 79, 80, 81, 82, 83, 84, 28, 29, 85, 86, 87, 88, 89, 90, 48, 49, 47, 91, 92, 93, 94, 95, 50, 51, 96, 97, 98, 99, 100, 101, 102, 103, 104, 105, 106, 107, 112, 113, 114, 115, 31, 116, 117, 118, 119, 24, 243, 244, 7, 245, 124, 125, 223, 224, 225, 226, 140, 141, 146, 147, 227, 25, 228, 229, 230, 231, 232, 233, 234, 46, 52, 120, 121, 122, 123, 126, 127, 128, 129, 130, 131, 132, 133, 134, 135, 136, 137, 138, 139, 142, 143, 144, 145, 148, 149, 150, 151, 152, 153, 154, 155, 156, 157, 158, 159, 160, 161, 162, 163, 164, 165, 166, 167, 168, 169, 170, 171, 30, 172, 173, 174, 175, 176, 177, 178, 179, 180, 181, 182, 183, 184, 23, 185, 186, 42, 187, 188, 189, 190, 191, 192, 193, 194, 195, 196, 197, 198, 39, 38, 199, 200, 201, 202, 41, 40, 203, 204, 205, 206, 207, 208, 209, 210, 211, 212, 213, 214, 215, 216, 217, 218, 219, 220, 221, 222, 246, 247, 248, 249, 250, 251, 252, 253, 254, 255, 256, 257, 258, 259, 266, 267, 268, 269, 270, 271, 272, 273, 274, 280, 281, 282, 283, 284, 285, 286, 287, 275, 276, 277, 278, 279] rfl (by decide +kernel)) (goodIn_sub (fun _ h => List.mem_append_left _ (List.mem_append_left _ (List.mem_append_right _ h))) (by decide +kernel))) (goodIn_sub (fun _ h => List.mem_append_left _ (List.mem_append_right _ h)) (by decide +kernel))) (goodIn_sub (fun _ h => List.mem_append_left _ (List.mem_append_left _ (List.mem_append_left _ (List.mem_append_right _ h)))) (by decide +kernel))) (goodIn_sub (fun _ h => List.mem_append_right _ h) (by decide +kernel))
set_option maxRecDepth 20000 in
theorem gL_law_L_refuses : GoodIn wsL_law (va_wsS RL 105 yL_refuses wsL_refuses) := goodIn_app (goodIn_of _ (by decide +kernel)) ggL_law_L_refuses
set_option maxRecDepth 200000 in
theorem ggL_law_L_add : GoodIn wsL_law wsL_add := goodIn_ca (goodIn_ca (goodIn_r _ [245, 124, 125, 223, 224, 225, 2, 226, 140, 141, 146, 147, 227, 25, 85, 86, 87, 228, 229, 230, 231, 20, 232, 33, 233, 234, 46, 47, 48, 49, 50, 51, 52, 53, 266, 267, 268, 269, 270, 271, 272, 273, 274, 280, 281, 282, 283, 284, 285, 286, 287] rfl (by decide +kernel)) (goodIn_sub (fun _ h => List.mem_append_left _ (List.mem_append_left _ (List.mem_append_right _ h))) (by decide +kernel))) (goodIn_sub (fun _ h => List.mem_append_left _ (List.mem_append_right _ h)) (by decide +kernel))
set_option maxRecDepth 20000 in
theorem gL_law_L_add : GoodIn wsL_law (va_wsS RL 80 yL_add wsL_add) := goodIn_app (goodIn_of _ (by decide +kernel)) ggL_law_L_add
set_option maxRecDepth 200000 in
theorem ggL_law_X2_remove : GoodIn wsL_law wsX2_remove := goodIn_ca (goodIn_r _ [129, 130, 131, 132, 2, 133, 134, 135, 70, 71, 72, 73, 20, 58, 59, 60, 61, 280, 281, 282, 283, 284, 285, 286, 287, 266, 267, 268, 269, 270, 271, 272, 273, 274] rfl (by decide +kernel)) (goodIn_sub (fun _ h => List.mem_append_left _ (List.mem_append_left _ (List.mem_append_left _ (List.mem_append_right _ h)))) (by decide +kernel))
set_option maxRecDepth 20000 in
theorem gL_law_X2_remove : GoodIn wsL_law (wsV RL 17 RX2 yX2_remove wsX2_remove) := goodIn_app (goodIn_of _ (by decide +kernel)) ggL_law_X2_remove
set_option maxRecDepth 200000 in
theorem ggL_law_X2_entries : GoodIn wsL_law wsX2_entries := goodIn_r _ [57, 58, 59, 60, 2, 61, 20, 266, 267, 268, 269, 270, 271, 272, 273, 274, 280, 281, 282, 283, 284, 285, 286, 287] rfl (by decide +kernel)
set_option maxRecDepth 20000 in
theorem gL_law_X2_entries : GoodIn wsL_law (wsV RL 66 RX2 yX2_entries wsX2_entries) := goodIn_app (goodIn_of _ (by decide +kernel)) ggL_law_X2_entries
set_option maxRecDepth 200000 in
theorem ggL_law_X2_tries : GoodIn wsL_law wsX2_tries := goodIn_ca (goodIn_r _ [214, 130, 131, 132, 2, 133, 134, 135, 70, 71, 72, 73, 20, 280, 281, 282, 283, 284, 285, 286, 287, 266, 267, 268, 269, 270, 271, 272, 273, 274] rfl (by decide +kernel)) (goodIn_sub (fun _ h => List.mem_append_left _ (List.mem_append_left _ (List.mem_append_left _ (List.mem_append_right _ h)))) (by decide +kernel))
set_option maxRecDepth 20000 in
theorem gL_law_X2_tries : GoodIn wsL_law (wsV RL 51 RX2 yX2_tries wsX2_tries) := goodIn_app (goodIn_of _ (by decide +kernel)) ggL_law_X2_tries
theorem dL_law_0 : decode cL_law 0 = .ok (.invokestatic 112, 3) := by decide +kernel
theorem dL_law_3 : decode cL_law 3 = .ok (.ifCond .eq 9, 3) := by decide +kernel
theorem dL_law_6 : decode cL_law 6 = .ok (.invokestatic 115, 3) := by decide +kernel
theorem dL_law_9 : decode cL_law 9 = .ok (.ifCond .ne 5, 3) := by decide +kernel
theorem dL_law_12 : decode cL_law 12 = .ok (.iconst 0, 1) := by decide +kernel
theorem dL_law_13 : decode cL_law 13 = .ok (.ireturn, 1) := by decide +kernel
theorem dL_law_14 : decode cL_law 14 = .ok (.new 8, 3) := by decide +kernel
theorem dL_law_17 : decode cL_law 17 = .ok (.dup, 1) := by decide +kernel
theorem dL_law_18 : decode cL_law 18 = .ok (.invokespecial 93, 3) := by decide +kernel
theorem dL_law_21 : decode cL_law 21 = .ok (.astore_n 1, 1) := by decide +kernel
theorem dL_law_22 : decode cL_law 22 = .ok (.iconst 0, 1) := by decide +kernel
theorem dL_law_23 : decode cL_law 23 = .ok (.istore_n 2, 1) := by decide +kernel
theorem dL_law_24 : decode cL_law 24 = .ok (.iload_n 2, 1) := by decide +kernel
theorem dL_law_25 : decode cL_law 25 = .ok (.bipush 16, 2) := by decide +kernel
theorem dL_law_27 : decode cL_law 27 = .ok (.if_icmp .ge 93, 3) := by decide +kernel
theorem dL_law_30 : decode cL_law 30 = .ok (.aload_n 0, 1) := by decide +kernel
theorem dL_law_31 : decode cL_law 31 = .ok (.arraylength, 1) := by decide +kernel
theorem dL_law_32 : decode cL_law 32 = .ok (.ifCond .ne 10, 3) := by decide +kernel
theorem dL_law_35 : decode cL_law 35 = .ok (.bipush 43, 2) := by decide +kernel
theorem dL_law_37 : decode cL_law 37 = .ok (.iload_n 2, 1) := by decide +kernel
theorem dL_law_38 : decode cL_law 38 = .ok (.imul, 1) := by decide +kernel
theorem dL_law_39 : decode cL_law 39 = .ok (.goto 12, 3) := by decide +kernel
theorem dL_law_42 : decode cL_law 42 = .ok (.aload_n 0, 1) := by decide +kernel
theorem dL_law_43 : decode cL_law 43 = .ok (.iload_n 2, 1) := by decide +kernel
theorem dL_law_44 : decode cL_law 44 = .ok (.aload_n 0, 1) := by decide +kernel
theorem dL_law_45 : decode cL_law 45 = .ok (.arraylength, 1) := by decide +kernel
theorem dL_law_46 : decode cL_law 46 = .ok (.irem, 1) := by decide +kernel
theorem dL_law_47 : decode cL_law 47 = .ok (.iaload, 1) := by decide +kernel
theorem dL_law_48 : decode cL_law 48 = .ok (.bipush 7, 2) := by decide +kernel
theorem dL_law_50 : decode cL_law 50 = .ok (.iushr, 1) := by decide +kernel
theorem dL_law_51 : decode cL_law 51 = .ok (.istore_n 3, 1) := by decide +kernel
theorem dL_law_52 : decode cL_law 52 = .ok (.aload_n 1, 1) := by decide +kernel
theorem dL_law_53 : decode cL_law 53 = .ok (.iload_n 3, 1) := by decide +kernel
theorem dL_law_54 : decode cL_law 54 = .ok (.iconst 3, 1) := by decide +kernel
theorem dL_law_55 : decode cL_law 55 = .ok (.irem, 1) := by decide +kernel
theorem dL_law_56 : decode cL_law 56 = .ok (.iload_n 3, 1) := by decide +kernel
theorem dL_law_57 : decode cL_law 57 = .ok (.bipush 100, 2) := by decide +kernel
theorem dL_law_59 : decode cL_law 59 = .ok (.irem, 1) := by decide +kernel
theorem dL_law_60 : decode cL_law 60 = .ok (.iload_n 3, 1) := by decide +kernel
theorem dL_law_61 : decode cL_law 61 = .ok (.ldc 118, 2) := by decide +kernel
theorem dL_law_63 : decode cL_law 63 = .ok (.irem, 1) := by decide +kernel
theorem dL_law_64 : decode cL_law 64 = .ok (.iload_n 3, 1) := by decide +kernel
theorem dL_law_65 : decode cL_law 65 = .ok (.iconst 3, 1) := by decide +kernel
theorem dL_law_66 : decode cL_law 66 = .ok (.idiv, 1) := by decide +kernel
theorem dL_law_67 : decode cL_law 67 = .ok (.iconst 3, 1) := by decide +kernel
theorem dL_law_68 : decode cL_law 68 = .ok (.irem, 1) := by decide +kernel
theorem dL_law_69 : decode cL_law 69 = .ok (.iload_n 3, 1) := by decide +kernel
theorem dL_law_70 : decode cL_law 70 = .ok (.bipush 11, 2) := by decide +kernel
theorem dL_law_72 : decode cL_law 72 = .ok (.irem, 1) := by decide +kernel
theorem dL_law_73 : decode cL_law 73 = .ok (.iconst 1, 1) := by decide +kernel
theorem dL_law_74 : decode cL_law 74 = .ok (.isub, 1) := by decide +kernel
theorem dL_law_75 : decode cL_law 75 = .ok (.invokevirtual 62, 3) := by decide +kernel
theorem dL_law_78 : decode cL_law 78 = .ok (.iload_n 2, 1) := by decide +kernel
theorem dL_law_79 : decode cL_law 79 = .ok (.if_icmp .ne 33, 3) := by decide +kernel
theorem dL_law_82 : decode cL_law 82 = .ok (.aload_n 1, 1) := by decide +kernel
theorem dL_law_83 : decode cL_law 83 = .ok (.aload_n 1, 1) := by decide +kernel
theorem dL_law_84 : decode cL_law 84 = .ok (.iload_n 2, 1) := by decide +kernel
theorem dL_law_85 : decode cL_law 85 = .ok (.invokevirtual 45, 3) := by decide +kernel
theorem dL_law_88 : decode cL_law 88 = .ok (.invokevirtual 48, 3) := by decide +kernel
theorem dL_law_91 : decode cL_law 91 = .ok (.iload_n 2, 1) := by decide +kernel
theorem dL_law_92 : decode cL_law 92 = .ok (.if_icmp .ne 20, 3) := by decide +kernel
theorem dL_law_95 : decode cL_law 95 = .ok (.iload_n 2, 1) := by decide +kernel
theorem dL_law_96 : decode cL_law 96 = .ok (.iconst 5, 1) := by decide +kernel
theorem dL_law_97 : decode cL_law 97 = .ok (.irem, 1) := by decide +kernel
theorem dL_law_98 : decode cL_law 98 = .ok (.ifCond .ne 16, 3) := by decide +kernel
theorem dL_law_101 : decode cL_law 101 = .ok (.aload_n 1, 1) := by decide +kernel
theorem dL_law_102 : decode cL_law 102 = .ok (.iconst 0, 1) := by decide +kernel
theorem dL_law_103 : decode cL_law 103 = .ok (.iload_n 2, 1) := by decide +kernel
theorem dL_law_104 : decode cL_law 104 = .ok (.iconst 1, 1) := by decide +kernel
theorem dL_law_105 : decode cL_law 105 = .ok (.iadd, 1) := by decide +kernel
theorem dL_law_106 : decode cL_law 106 = .ok (.invokestatic 105, 3) := by decide +kernel
theorem dL_law_109 : decode cL_law 109 = .ok (.ifCond .ne 5, 3) := by decide +kernel
theorem dL_law_112 : decode cL_law 112 = .ok (.iconst 0, 1) := by decide +kernel
theorem dL_law_113 : decode cL_law 113 = .ok (.ireturn, 1) := by decide +kernel
theorem dL_law_114 : decode cL_law 114 = .ok (.iinc 2 1, 3) := by decide +kernel
theorem dL_law_117 : decode cL_law 117 = .ok (.goto (-93), 3) := by decide +kernel
theorem dL_law_120 : decode cL_law 120 = .ok (.aload_n 1, 1) := by decide +kernel
theorem dL_law_121 : decode cL_law 121 = .ok (.iconst 0, 1) := by decide +kernel
theorem dL_law_122 : decode cL_law 122 = .ok (.iconst 0, 1) := by decide +kernel
theorem dL_law_123 : decode cL_law 123 = .ok (.iconst 0, 1) := by decide +kernel
theorem dL_law_124 : decode cL_law 124 = .ok (.iconst 0, 1) := by decide +kernel
theorem dL_law_125 : decode cL_law 125 = .ok (.iconst 0, 1) := by decide +kernel
theorem dL_law_126 : decode cL_law 126 = .ok (.invokestatic 80, 3) := by decide +kernel
theorem dL_law_129 : decode cL_law 129 = .ok (.bipush (-73), 2) := by decide +kernel
theorem dL_law_131 : decode cL_law 131 = .ok (.if_icmp .eq 5, 3) := by decide +kernel
theorem dL_law_134 : decode cL_law 134 = .ok (.iconst 0, 1) := by decide +kernel
theorem dL_law_135 : decode cL_law 135 = .ok (.ireturn, 1) := by decide +kernel
theorem dL_law_136 : decode cL_law 136 = .ok (.bipush 16, 2) := by decide +kernel
theorem dL_law_138 : decode cL_law 138 = .ok (.istore_n 2, 1) := by decide +kernel
theorem dL_law_139 : decode cL_law 139 = .ok (.iload_n 2, 1) := by decide +kernel
theorem dL_law_140 : decode cL_law 140 = .ok (.bipush 61, 2) := by decide +kernel
theorem dL_law_142 : decode cL_law 142 = .ok (.if_icmp .ge 51, 3) := by decide +kernel
theorem dL_law_145 : decode cL_law 145 = .ok (.aload_n 1, 1) := by decide +kernel
theorem dL_law_146 : decode cL_law 146 = .ok (.iload_n 2, 1) := by decide +kernel
theorem dL_law_147 : decode cL_law 147 = .ok (.bipush 16, 2) := by decide +kernel
theorem dL_law_149 : decode cL_law 149 = .ok (.isub, 1) := by decide +kernel
theorem dL_law_150 : decode cL_law 150 = .ok (.invokevirtual 17, 3) := by decide +kernel
theorem dL_law_153 : decode cL_law 153 = .ok (.bipush 15, 2) := by decide +kernel
theorem dL_law_155 : decode cL_law 155 = .ok (.if_icmp .ne 30, 3) := by decide +kernel
theorem dL_law_158 : decode cL_law 158 = .ok (.aload_n 1, 1) := by decide +kernel
theorem dL_law_159 : decode cL_law 159 = .ok (.iconst 2, 1) := by decide +kernel
theorem dL_law_160 : decode cL_law 160 = .ok (.bipush 99, 2) := by decide +kernel
theorem dL_law_162 : decode cL_law 162 = .ok (.ldc 119, 2) := by decide +kernel
theorem dL_law_164 : decode cL_law 164 = .ok (.iconst 2, 1) := by decide +kernel
theorem dL_law_165 : decode cL_law 165 = .ok (.bipush 9, 2) := by decide +kernel
theorem dL_law_167 : decode cL_law 167 = .ok (.invokestatic 80, 3) := by decide +kernel
theorem dL_law_170 : decode cL_law 170 = .ok (.iload_n 2, 1) := by decide +kernel
theorem dL_law_171 : decode cL_law 171 = .ok (.bipush 60, 2) := by decide +kernel
theorem dL_law_173 : decode cL_law 173 = .ok (.if_icmp .ge 7, 3) := by decide +kernel
theorem dL_law_176 : decode cL_law 176 = .ok (.iload_n 2, 1) := by decide +kernel
theorem dL_law_177 : decode cL_law 177 = .ok (.goto 5, 3) := by decide +kernel
theorem dL_law_180 : decode cL_law 180 = .ok (.bipush (-73), 2) := by decide +kernel
theorem dL_law_182 : decode cL_law 182 = .ok (.if_icmp .eq 5, 3) := by decide +kernel
theorem dL_law_185 : decode cL_law 185 = .ok (.iconst 0, 1) := by decide +kernel
theorem dL_law_186 : decode cL_law 186 = .ok (.ireturn, 1) := by decide +kernel
theorem dL_law_187 : decode cL_law 187 = .ok (.iinc 2 1, 3) := by decide +kernel
theorem dL_law_190 : decode cL_law 190 = .ok (.goto (-51), 3) := by decide +kernel
theorem dL_law_193 : decode cL_law 193 = .ok (.aload_n 1, 1) := by decide +kernel
theorem dL_law_194 : decode cL_law 194 = .ok (.invokevirtual 66, 3) := by decide +kernel
theorem dL_law_197 : decode cL_law 197 = .ok (.bipush 15, 2) := by decide +kernel
theorem dL_law_199 : decode cL_law 199 = .ok (.if_icmp .ne 50, 3) := by decide +kernel
theorem dL_law_202 : decode cL_law 202 = .ok (.aload_n 1, 1) := by decide +kernel
theorem dL_law_203 : decode cL_law 203 = .ok (.bipush 59, 2) := by decide +kernel
theorem dL_law_205 : decode cL_law 205 = .ok (.invokevirtual 51, 3) := by decide +kernel
theorem dL_law_208 : decode cL_law 208 = .ok (.bipush 9, 2) := by decide +kernel
theorem dL_law_210 : decode cL_law 210 = .ok (.if_icmp .ne 39, 3) := by decide +kernel
theorem dL_law_213 : decode cL_law 213 = .ok (.aload_n 1, 1) := by decide +kernel
theorem dL_law_214 : decode cL_law 214 = .ok (.iconst 0, 1) := by decide +kernel
theorem dL_law_215 : decode cL_law 215 = .ok (.invokevirtual 45, 3) := by decide +kernel
theorem dL_law_218 : decode cL_law 218 = .ok (.bipush 45, 2) := by decide +kernel
theorem dL_law_220 : decode cL_law 220 = .ok (.if_icmp .lt 29, 3) := by decide +kernel
theorem dL_law_223 : decode cL_law 223 = .ok (.aload_n 1, 1) := by decide +kernel
theorem dL_law_224 : decode cL_law 224 = .ok (.bipush 59, 2) := by decide +kernel
theorem dL_law_226 : decode cL_law 226 = .ok (.bipush 60, 2) := by decide +kernel
theorem dL_law_228 : decode cL_law 228 = .ok (.invokestatic 105, 3) := by decide +kernel
theorem dL_law_231 : decode cL_law 231 = .ok (.ifCond .eq 18, 3) := by decide +kernel
theorem dL_law_234 : decode cL_law 234 = .ok (.aload_n 1, 1) := by decide +kernel
theorem dL_law_235 : decode cL_law 235 = .ok (.bipush 45, 2) := by decide +kernel
theorem dL_law_237 : decode cL_law 237 = .ok (.bipush 44, 2) := by decide +kernel
theorem dL_law_239 : decode cL_law 239 = .ok (.invokestatic 105, 3) := by decide +kernel
theorem dL_law_242 : decode cL_law 242 = .ok (.ifCond .eq 7, 3) := by decide +kernel
theorem dL_law_245 : decode cL_law 245 = .ok (.iconst 1, 1) := by decide +kernel
theorem dL_law_246 : decode cL_law 246 = .ok (.goto 4, 3) := by decide +kernel
theorem dL_law_249 : decode cL_law 249 = .ok (.iconst 0, 1) := by decide +kernel
theorem dL_law_250 : decode cL_law 250 = .ok (.ireturn, 1) := by decide +kernel

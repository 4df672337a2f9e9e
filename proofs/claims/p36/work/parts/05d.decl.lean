theorem dL_runs_0 : decode cL_runs 0 = .ok (.new 8, 3) := by decide +kernel
theorem dL_runs_3 : decode cL_runs 3 = .ok (.dup, 1) := by decide +kernel
theorem dL_runs_4 : decode cL_runs 4 = .ok (.invokespecial 116, 3) := by decide +kernel
theorem dL_runs_7 : decode cL_runs 7 = .ok (.astore_n 0, 1) := by decide +kernel
theorem dL_runs_8 : decode cL_runs 8 = .ok (.aload_n 0, 1) := by decide +kernel
theorem dL_runs_9 : decode cL_runs 9 = .ok (.bipush 97, 2) := by decide +kernel
theorem dL_runs_11 : decode cL_runs 11 = .ok (.bipush 47, 2) := by decide +kernel
theorem dL_runs_13 : decode cL_runs 13 = .ok (.bipush 98, 2) := by decide +kernel
theorem dL_runs_15 : decode cL_runs 15 = .ok (.bipush 46, 2) := by decide +kernel
theorem dL_runs_17 : decode cL_runs 17 = .ok (.bipush 46, 2) := by decide +kernel
theorem dL_runs_19 : decode cL_runs 19 = .ok (.bipush 46, 2) := by decide +kernel
theorem dL_runs_21 : decode cL_runs 21 = .ok (.bipush 46, 2) := by decide +kernel
theorem dL_runs_23 : decode cL_runs 23 = .ok (.bipush 46, 2) := by decide +kernel
theorem dL_runs_25 : decode cL_runs 25 = .ok (.invokestatic 121, 3) := by decide +kernel
theorem dL_runs_28 : decode cL_runs 28 = .ok (.ifCond .eq 224, 3) := by decide +kernel
theorem dL_runs_31 : decode cL_runs 31 = .ok (.aload_n 0, 1) := by decide +kernel
theorem dL_runs_32 : decode cL_runs 32 = .ok (.iconst 1, 1) := by decide +kernel
theorem dL_runs_33 : decode cL_runs 33 = .ok (.invokevirtual 13, 3) := by decide +kernel
theorem dL_runs_36 : decode cL_runs 36 = .ok (.ifCond .ne 216, 3) := by decide +kernel
theorem dL_runs_39 : decode cL_runs 39 = .ok (.aload_n 0, 1) := by decide +kernel
theorem dL_runs_40 : decode cL_runs 40 = .ok (.bipush 97, 2) := by decide +kernel
theorem dL_runs_42 : decode cL_runs 42 = .ok (.bipush 47, 2) := by decide +kernel
theorem dL_runs_44 : decode cL_runs 44 = .ok (.bipush 99, 2) := by decide +kernel
theorem dL_runs_46 : decode cL_runs 46 = .ok (.bipush 46, 2) := by decide +kernel
theorem dL_runs_48 : decode cL_runs 48 = .ok (.bipush 46, 2) := by decide +kernel
theorem dL_runs_50 : decode cL_runs 50 = .ok (.bipush 46, 2) := by decide +kernel
theorem dL_runs_52 : decode cL_runs 52 = .ok (.bipush 46, 2) := by decide +kernel
theorem dL_runs_54 : decode cL_runs 54 = .ok (.bipush 46, 2) := by decide +kernel
theorem dL_runs_56 : decode cL_runs 56 = .ok (.invokestatic 121, 3) := by decide +kernel
theorem dL_runs_59 : decode cL_runs 59 = .ok (.ifCond .eq 193, 3) := by decide +kernel
theorem dL_runs_62 : decode cL_runs 62 = .ok (.aload_n 0, 1) := by decide +kernel
theorem dL_runs_63 : decode cL_runs 63 = .ok (.iconst 3, 1) := by decide +kernel
theorem dL_runs_64 : decode cL_runs 64 = .ok (.invokevirtual 13, 3) := by decide +kernel
theorem dL_runs_67 : decode cL_runs 67 = .ok (.iconst 1, 1) := by decide +kernel
theorem dL_runs_68 : decode cL_runs 68 = .ok (.if_icmp .ne 184, 3) := by decide +kernel
theorem dL_runs_71 : decode cL_runs 71 = .ok (.aload_n 0, 1) := by decide +kernel
theorem dL_runs_72 : decode cL_runs 72 = .ok (.bipush 101, 2) := by decide +kernel
theorem dL_runs_74 : decode cL_runs 74 = .ok (.bipush 46, 2) := by decide +kernel
theorem dL_runs_76 : decode cL_runs 76 = .ok (.bipush 46, 2) := by decide +kernel
theorem dL_runs_78 : decode cL_runs 78 = .ok (.bipush 46, 2) := by decide +kernel
theorem dL_runs_80 : decode cL_runs 80 = .ok (.bipush 46, 2) := by decide +kernel
theorem dL_runs_82 : decode cL_runs 82 = .ok (.bipush 46, 2) := by decide +kernel
theorem dL_runs_84 : decode cL_runs 84 = .ok (.bipush 46, 2) := by decide +kernel
theorem dL_runs_86 : decode cL_runs 86 = .ok (.bipush 46, 2) := by decide +kernel
theorem dL_runs_88 : decode cL_runs 88 = .ok (.invokestatic 121, 3) := by decide +kernel
theorem dL_runs_91 : decode cL_runs 91 = .ok (.ifCond .eq 161, 3) := by decide +kernel
theorem dL_runs_94 : decode cL_runs 94 = .ok (.aload_n 0, 1) := by decide +kernel
theorem dL_runs_95 : decode cL_runs 95 = .ok (.iconst 4, 1) := by decide +kernel
theorem dL_runs_96 : decode cL_runs 96 = .ok (.invokevirtual 13, 3) := by decide +kernel
theorem dL_runs_99 : decode cL_runs 99 = .ok (.iconst 2, 1) := by decide +kernel
theorem dL_runs_100 : decode cL_runs 100 = .ok (.if_icmp .ne 152, 3) := by decide +kernel
theorem dL_runs_103 : decode cL_runs 103 = .ok (.aload_n 0, 1) := by decide +kernel
theorem dL_runs_104 : decode cL_runs 104 = .ok (.bipush 10, 2) := by decide +kernel
theorem dL_runs_106 : decode cL_runs 106 = .ok (.invokevirtual 28, 3) := by decide +kernel
theorem dL_runs_109 : decode cL_runs 109 = .ok (.ifCond .ne 143, 3) := by decide +kernel
theorem dL_runs_112 : decode cL_runs 112 = .ok (.aload_n 0, 1) := by decide +kernel
theorem dL_runs_113 : decode cL_runs 113 = .ok (.bipush 30, 2) := by decide +kernel
theorem dL_runs_115 : decode cL_runs 115 = .ok (.invokevirtual 28, 3) := by decide +kernel
theorem dL_runs_118 : decode cL_runs 118 = .ok (.iconst 1, 1) := by decide +kernel
theorem dL_runs_119 : decode cL_runs 119 = .ok (.if_icmp .ne 133, 3) := by decide +kernel
theorem dL_runs_122 : decode cL_runs 122 = .ok (.aload_n 0, 1) := by decide +kernel
theorem dL_runs_123 : decode cL_runs 123 = .ok (.bipush 20, 2) := by decide +kernel
theorem dL_runs_125 : decode cL_runs 125 = .ok (.invokevirtual 28, 3) := by decide +kernel
theorem dL_runs_128 : decode cL_runs 128 = .ok (.iconst 2, 1) := by decide +kernel
theorem dL_runs_129 : decode cL_runs 129 = .ok (.if_icmp .ne 123, 3) := by decide +kernel
theorem dL_runs_132 : decode cL_runs 132 = .ok (.aload_n 0, 1) := by decide +kernel
theorem dL_runs_133 : decode cL_runs 133 = .ok (.bipush 30, 2) := by decide +kernel
theorem dL_runs_135 : decode cL_runs 135 = .ok (.invokevirtual 28, 3) := by decide +kernel
theorem dL_runs_138 : decode cL_runs 138 = .ok (.iconst 3, 1) := by decide +kernel
theorem dL_runs_139 : decode cL_runs 139 = .ok (.if_icmp .ne 113, 3) := by decide +kernel
theorem dL_runs_142 : decode cL_runs 142 = .ok (.aload_n 0, 1) := by decide +kernel
theorem dL_runs_143 : decode cL_runs 143 = .ok (.iconst 1, 1) := by decide +kernel
theorem dL_runs_144 : decode cL_runs 144 = .ok (.invokevirtual 31, 3) := by decide +kernel
theorem dL_runs_147 : decode cL_runs 147 = .ok (.iconst 1, 1) := by decide +kernel
theorem dL_runs_148 : decode cL_runs 148 = .ok (.if_icmp .ne 104, 3) := by decide +kernel
theorem dL_runs_151 : decode cL_runs 151 = .ok (.aload_n 0, 1) := by decide +kernel
theorem dL_runs_152 : decode cL_runs 152 = .ok (.bipush 97, 2) := by decide +kernel
theorem dL_runs_154 : decode cL_runs 154 = .ok (.bipush 47, 2) := by decide +kernel
theorem dL_runs_156 : decode cL_runs 156 = .ok (.bipush 42, 2) := by decide +kernel
theorem dL_runs_158 : decode cL_runs 158 = .ok (.bipush 42, 2) := by decide +kernel
theorem dL_runs_160 : decode cL_runs 160 = .ok (.bipush 46, 2) := by decide +kernel
theorem dL_runs_162 : decode cL_runs 162 = .ok (.bipush 46, 2) := by decide +kernel
theorem dL_runs_164 : decode cL_runs 164 = .ok (.bipush 46, 2) := by decide +kernel
theorem dL_runs_166 : decode cL_runs 166 = .ok (.bipush 46, 2) := by decide +kernel
theorem dL_runs_168 : decode cL_runs 168 = .ok (.invokestatic 121, 3) := by decide +kernel
theorem dL_runs_171 : decode cL_runs 171 = .ok (.ifCond .eq 81, 3) := by decide +kernel
theorem dL_runs_174 : decode cL_runs 174 = .ok (.aload_n 0, 1) := by decide +kernel
theorem dL_runs_175 : decode cL_runs 175 = .ok (.iconst 0, 1) := by decide +kernel
theorem dL_runs_176 : decode cL_runs 176 = .ok (.invokevirtual 31, 3) := by decide +kernel
theorem dL_runs_179 : decode cL_runs 179 = .ok (.iconst 2, 1) := by decide +kernel
theorem dL_runs_180 : decode cL_runs 180 = .ok (.if_icmp .ne 72, 3) := by decide +kernel
theorem dL_runs_183 : decode cL_runs 183 = .ok (.aload_n 0, 1) := by decide +kernel
theorem dL_runs_184 : decode cL_runs 184 = .ok (.iconst 2, 1) := by decide +kernel
theorem dL_runs_185 : decode cL_runs 185 = .ok (.iconst 0, 1) := by decide +kernel
theorem dL_runs_186 : decode cL_runs 186 = .ok (.invokevirtual 34, 3) := by decide +kernel
theorem dL_runs_189 : decode cL_runs 189 = .ok (.iconst 1, 1) := by decide +kernel
theorem dL_runs_190 : decode cL_runs 190 = .ok (.if_icmp .ne 62, 3) := by decide +kernel
theorem dL_runs_193 : decode cL_runs 193 = .ok (.aload_n 0, 1) := by decide +kernel
theorem dL_runs_194 : decode cL_runs 194 = .ok (.iconst 2, 1) := by decide +kernel
theorem dL_runs_195 : decode cL_runs 195 = .ok (.iconst 1, 1) := by decide +kernel
theorem dL_runs_196 : decode cL_runs 196 = .ok (.invokevirtual 34, 3) := by decide +kernel
theorem dL_runs_199 : decode cL_runs 199 = .ok (.iconst 2, 1) := by decide +kernel
theorem dL_runs_200 : decode cL_runs 200 = .ok (.if_icmp .ne 52, 3) := by decide +kernel
theorem dL_runs_203 : decode cL_runs 203 = .ok (.aload_n 0, 1) := by decide +kernel
theorem dL_runs_204 : decode cL_runs 204 = .ok (.iconst 3, 1) := by decide +kernel
theorem dL_runs_205 : decode cL_runs 205 = .ok (.iconst 2, 1) := by decide +kernel
theorem dL_runs_206 : decode cL_runs 206 = .ok (.invokevirtual 34, 3) := by decide +kernel
theorem dL_runs_209 : decode cL_runs 209 = .ok (.iconst 1, 1) := by decide +kernel
theorem dL_runs_210 : decode cL_runs 210 = .ok (.if_icmp .ne 42, 3) := by decide +kernel
theorem dL_runs_213 : decode cL_runs 213 = .ok (.aload_n 0, 1) := by decide +kernel
theorem dL_runs_214 : decode cL_runs 214 = .ok (.bipush 7, 2) := by decide +kernel
theorem dL_runs_216 : decode cL_runs 216 = .ok (.iconst 0, 1) := by decide +kernel
theorem dL_runs_217 : decode cL_runs 217 = .ok (.iconst 3, 1) := by decide +kernel
theorem dL_runs_218 : decode cL_runs 218 = .ok (.invokestatic 86, 3) := by decide +kernel
theorem dL_runs_221 : decode cL_runs 221 = .ok (.bipush (-33), 2) := by decide +kernel
theorem dL_runs_223 : decode cL_runs 223 = .ok (.if_icmp .ne 29, 3) := by decide +kernel
theorem dL_runs_226 : decode cL_runs 226 = .ok (.aload_n 0, 1) := by decide +kernel
theorem dL_runs_227 : decode cL_runs 227 = .ok (.bipush 7, 2) := by decide +kernel
theorem dL_runs_229 : decode cL_runs 229 = .ok (.iconst 2, 1) := by decide +kernel
theorem dL_runs_230 : decode cL_runs 230 = .ok (.iconst 0, 1) := by decide +kernel
theorem dL_runs_231 : decode cL_runs 231 = .ok (.invokestatic 86, 3) := by decide +kernel
theorem dL_runs_234 : decode cL_runs 234 = .ok (.bipush (-33), 2) := by decide +kernel
theorem dL_runs_236 : decode cL_runs 236 = .ok (.if_icmp .ne 16, 3) := by decide +kernel
theorem dL_runs_239 : decode cL_runs 239 = .ok (.aload_n 0, 1) := by decide +kernel
theorem dL_runs_240 : decode cL_runs 240 = .ok (.bipush 7, 2) := by decide +kernel
theorem dL_runs_242 : decode cL_runs 242 = .ok (.iconst 1, 1) := by decide +kernel
theorem dL_runs_243 : decode cL_runs 243 = .ok (.iconst 1, 1) := by decide +kernel
theorem dL_runs_244 : decode cL_runs 244 = .ok (.invokestatic 86, 3) := by decide +kernel
theorem dL_runs_247 : decode cL_runs 247 = .ok (.bipush (-33), 2) := by decide +kernel
theorem dL_runs_249 : decode cL_runs 249 = .ok (.if_icmp .eq 5, 3) := by decide +kernel
theorem dL_runs_252 : decode cL_runs 252 = .ok (.iconst 0, 1) := by decide +kernel
theorem dL_runs_253 : decode cL_runs 253 = .ok (.ireturn, 1) := by decide +kernel
theorem dL_runs_254 : decode cL_runs 254 = .ok (.aload_n 0, 1) := by decide +kernel
theorem dL_runs_255 : decode cL_runs 255 = .ok (.iconst 0, 1) := by decide +kernel
theorem dL_runs_256 : decode cL_runs 256 = .ok (.invokevirtual 40, 3) := by decide +kernel
theorem dL_runs_259 : decode cL_runs 259 = .ok (.bipush 12, 2) := by decide +kernel
theorem dL_runs_261 : decode cL_runs 261 = .ok (.if_icmp .ne 226, 3) := by decide +kernel
theorem dL_runs_264 : decode cL_runs 264 = .ok (.aload_n 0, 1) := by decide +kernel
theorem dL_runs_265 : decode cL_runs 265 = .ok (.iconst 3, 1) := by decide +kernel
theorem dL_runs_266 : decode cL_runs 266 = .ok (.invokevirtual 40, 3) := by decide +kernel
theorem dL_runs_269 : decode cL_runs 269 = .ok (.ifCond .ne 218, 3) := by decide +kernel
theorem dL_runs_272 : decode cL_runs 272 = .ok (.aload_n 0, 1) := by decide +kernel
theorem dL_runs_273 : decode cL_runs 273 = .ok (.iconst 0, 1) := by decide +kernel
theorem dL_runs_274 : decode cL_runs 274 = .ok (.invokevirtual 43, 3) := by decide +kernel
theorem dL_runs_277 : decode cL_runs 277 = .ok (.ifCond .ne 210, 3) := by decide +kernel
theorem dL_runs_280 : decode cL_runs 280 = .ok (.aload_n 0, 1) := by decide +kernel
theorem dL_runs_281 : decode cL_runs 281 = .ok (.iconst 3, 1) := by decide +kernel
theorem dL_runs_282 : decode cL_runs 282 = .ok (.invokevirtual 43, 3) := by decide +kernel
theorem dL_runs_285 : decode cL_runs 285 = .ok (.iconst 3, 1) := by decide +kernel
theorem dL_runs_286 : decode cL_runs 286 = .ok (.if_icmp .ne 201, 3) := by decide +kernel
theorem dL_runs_289 : decode cL_runs 289 = .ok (.aload_n 0, 1) := by decide +kernel
theorem dL_runs_290 : decode cL_runs 290 = .ok (.iconst 0, 1) := by decide +kernel
theorem dL_runs_291 : decode cL_runs 291 = .ok (.invokevirtual 37, 3) := by decide +kernel
theorem dL_runs_294 : decode cL_runs 294 = .ok (.iconst 3, 1) := by decide +kernel
theorem dL_runs_295 : decode cL_runs 295 = .ok (.if_icmp .ne 192, 3) := by decide +kernel
theorem dL_runs_298 : decode cL_runs 298 = .ok (.aload_n 0, 1) := by decide +kernel
theorem dL_runs_299 : decode cL_runs 299 = .ok (.iconst 1, 1) := by decide +kernel
theorem dL_runs_300 : decode cL_runs 300 = .ok (.invokevirtual 37, 3) := by decide +kernel
theorem dL_runs_303 : decode cL_runs 303 = .ok (.iconst 4, 1) := by decide +kernel
theorem dL_runs_304 : decode cL_runs 304 = .ok (.if_icmp .ne 183, 3) := by decide +kernel
theorem dL_runs_307 : decode cL_runs 307 = .ok (.aload_n 0, 1) := by decide +kernel
theorem dL_runs_308 : decode cL_runs 308 = .ok (.iconst 2, 1) := by decide +kernel
theorem dL_runs_309 : decode cL_runs 309 = .ok (.invokevirtual 37, 3) := by decide +kernel
theorem dL_runs_312 : decode cL_runs 312 = .ok (.ifCond .ne 175, 3) := by decide +kernel
theorem dL_runs_315 : decode cL_runs 315 = .ok (.aload_n 0, 1) := by decide +kernel
theorem dL_runs_316 : decode cL_runs 316 = .ok (.iconst 0, 1) := by decide +kernel
theorem dL_runs_317 : decode cL_runs 317 = .ok (.invokevirtual 46, 3) := by decide +kernel
theorem dL_runs_320 : decode cL_runs 320 = .ok (.bipush 13, 2) := by decide +kernel
theorem dL_runs_322 : decode cL_runs 322 = .ok (.if_icmp .ne 165, 3) := by decide +kernel
theorem dL_runs_325 : decode cL_runs 325 = .ok (.aload_n 0, 1) := by decide +kernel
theorem dL_runs_326 : decode cL_runs 326 = .ok (.iconst 2, 1) := by decide +kernel
theorem dL_runs_327 : decode cL_runs 327 = .ok (.invokevirtual 46, 3) := by decide +kernel
theorem dL_runs_330 : decode cL_runs 330 = .ok (.bipush 14, 2) := by decide +kernel
theorem dL_runs_332 : decode cL_runs 332 = .ok (.if_icmp .ne 155, 3) := by decide +kernel
theorem dL_runs_335 : decode cL_runs 335 = .ok (.aload_n 0, 1) := by decide +kernel
theorem dL_runs_336 : decode cL_runs 336 = .ok (.iconst 1, 1) := by decide +kernel
theorem dL_runs_337 : decode cL_runs 337 = .ok (.invokevirtual 49, 3) := by decide +kernel
theorem dL_runs_340 : decode cL_runs 340 = .ok (.bipush 13, 2) := by decide +kernel
theorem dL_runs_342 : decode cL_runs 342 = .ok (.if_icmp .ne 145, 3) := by decide +kernel
theorem dL_runs_345 : decode cL_runs 345 = .ok (.aload_n 0, 1) := by decide +kernel
theorem dL_runs_346 : decode cL_runs 346 = .ok (.invokevirtual 135, 3) := by decide +kernel
theorem dL_runs_349 : decode cL_runs 349 = .ok (.bipush 15, 2) := by decide +kernel
theorem dL_runs_351 : decode cL_runs 351 = .ok (.if_icmp .ne 136, 3) := by decide +kernel
theorem dL_runs_354 : decode cL_runs 354 = .ok (.aload_n 0, 1) := by decide +kernel
theorem dL_runs_355 : decode cL_runs 355 = .ok (.iconst 0, 1) := by decide +kernel
theorem dL_runs_356 : decode cL_runs 356 = .ok (.invokevirtual 55, 3) := by decide +kernel
theorem dL_runs_359 : decode cL_runs 359 = .ok (.iconst 1, 1) := by decide +kernel
theorem dL_runs_360 : decode cL_runs 360 = .ok (.if_icmp .ne 127, 3) := by decide +kernel
theorem dL_runs_363 : decode cL_runs 363 = .ok (.aload_n 0, 1) := by decide +kernel
theorem dL_runs_364 : decode cL_runs 364 = .ok (.bipush 15, 2) := by decide +kernel
theorem dL_runs_366 : decode cL_runs 366 = .ok (.iconst 2, 1) := by decide +kernel
theorem dL_runs_367 : decode cL_runs 367 = .ok (.iconst 0, 1) := by decide +kernel
theorem dL_runs_368 : decode cL_runs 368 = .ok (.invokestatic 86, 3) := by decide +kernel
theorem dL_runs_371 : decode cL_runs 371 = .ok (.bipush (-33), 2) := by decide +kernel
theorem dL_runs_373 : decode cL_runs 373 = .ok (.if_icmp .ne 114, 3) := by decide +kernel
theorem dL_runs_376 : decode cL_runs 376 = .ok (.aload_n 0, 1) := by decide +kernel
theorem dL_runs_377 : decode cL_runs 377 = .ok (.iconst 0, 1) := by decide +kernel
theorem dL_runs_378 : decode cL_runs 378 = .ok (.invokevirtual 58, 3) := by decide +kernel
theorem dL_runs_381 : decode cL_runs 381 = .ok (.iconst 1, 1) := by decide +kernel
theorem dL_runs_382 : decode cL_runs 382 = .ok (.if_icmp .ne 105, 3) := by decide +kernel
theorem dL_runs_385 : decode cL_runs 385 = .ok (.aload_n 0, 1) := by decide +kernel
theorem dL_runs_386 : decode cL_runs 386 = .ok (.iconst 0, 1) := by decide +kernel
theorem dL_runs_387 : decode cL_runs 387 = .ok (.invokevirtual 58, 3) := by decide +kernel
theorem dL_runs_390 : decode cL_runs 390 = .ok (.iconst 1, 1) := by decide +kernel
theorem dL_runs_391 : decode cL_runs 391 = .ok (.if_icmp .ne 96, 3) := by decide +kernel
theorem dL_runs_394 : decode cL_runs 394 = .ok (.aload_n 0, 1) := by decide +kernel
theorem dL_runs_395 : decode cL_runs 395 = .ok (.iconst 0, 1) := by decide +kernel
theorem dL_runs_396 : decode cL_runs 396 = .ok (.invokevirtual 52, 3) := by decide +kernel
theorem dL_runs_399 : decode cL_runs 399 = .ok (.iconst 1, 1) := by decide +kernel
theorem dL_runs_400 : decode cL_runs 400 = .ok (.if_icmp .ne 87, 3) := by decide +kernel
theorem dL_runs_403 : decode cL_runs 403 = .ok (.aload_n 0, 1) := by decide +kernel
theorem dL_runs_404 : decode cL_runs 404 = .ok (.iconst 1, 1) := by decide +kernel
theorem dL_runs_405 : decode cL_runs 405 = .ok (.invokevirtual 58, 3) := by decide +kernel
theorem dL_runs_408 : decode cL_runs 408 = .ok (.iconst 2, 1) := by decide +kernel
theorem dL_runs_409 : decode cL_runs 409 = .ok (.if_icmp .ne 78, 3) := by decide +kernel
theorem dL_runs_412 : decode cL_runs 412 = .ok (.aload_n 0, 1) := by decide +kernel
theorem dL_runs_413 : decode cL_runs 413 = .ok (.iconst 2, 1) := by decide +kernel
theorem dL_runs_414 : decode cL_runs 414 = .ok (.invokevirtual 58, 3) := by decide +kernel
theorem dL_runs_417 : decode cL_runs 417 = .ok (.iconst 3, 1) := by decide +kernel
theorem dL_runs_418 : decode cL_runs 418 = .ok (.if_icmp .ne 69, 3) := by decide +kernel
theorem dL_runs_421 : decode cL_runs 421 = .ok (.aload_n 0, 1) := by decide +kernel
theorem dL_runs_422 : decode cL_runs 422 = .ok (.invokevirtual 135, 3) := by decide +kernel
theorem dL_runs_425 : decode cL_runs 425 = .ok (.bipush 8, 2) := by decide +kernel
theorem dL_runs_427 : decode cL_runs 427 = .ok (.if_icmp .ne 60, 3) := by decide +kernel
theorem dL_runs_430 : decode cL_runs 430 = .ok (.aload_n 0, 1) := by decide +kernel
theorem dL_runs_431 : decode cL_runs 431 = .ok (.iconst 3, 1) := by decide +kernel
theorem dL_runs_432 : decode cL_runs 432 = .ok (.invokevirtual 55, 3) := by decide +kernel
theorem dL_runs_435 : decode cL_runs 435 = .ok (.iconst 1, 1) := by decide +kernel
theorem dL_runs_436 : decode cL_runs 436 = .ok (.if_icmp .ne 51, 3) := by decide +kernel
theorem dL_runs_439 : decode cL_runs 439 = .ok (.aload_n 0, 1) := by decide +kernel
theorem dL_runs_440 : decode cL_runs 440 = .ok (.iconst 2, 1) := by decide +kernel
theorem dL_runs_441 : decode cL_runs 441 = .ok (.invokevirtual 55, 3) := by decide +kernel
theorem dL_runs_444 : decode cL_runs 444 = .ok (.ifCond .ne 43, 3) := by decide +kernel
theorem dL_runs_447 : decode cL_runs 447 = .ok (.aload_n 0, 1) := by decide +kernel
theorem dL_runs_448 : decode cL_runs 448 = .ok (.invokevirtual 61, 3) := by decide +kernel
theorem dL_runs_451 : decode cL_runs 451 = .ok (.iconst 1, 1) := by decide +kernel
theorem dL_runs_452 : decode cL_runs 452 = .ok (.if_icmp .ne 35, 3) := by decide +kernel
theorem dL_runs_455 : decode cL_runs 455 = .ok (.aload_n 0, 1) := by decide +kernel
theorem dL_runs_456 : decode cL_runs 456 = .ok (.iconst 3, 1) := by decide +kernel
theorem dL_runs_457 : decode cL_runs 457 = .ok (.invokevirtual 52, 3) := by decide +kernel
theorem dL_runs_460 : decode cL_runs 460 = .ok (.iconst 4, 1) := by decide +kernel
theorem dL_runs_461 : decode cL_runs 461 = .ok (.if_icmp .ne 26, 3) := by decide +kernel
theorem dL_runs_464 : decode cL_runs 464 = .ok (.aload_n 0, 1) := by decide +kernel
theorem dL_runs_465 : decode cL_runs 465 = .ok (.invokevirtual 61, 3) := by decide +kernel
theorem dL_runs_468 : decode cL_runs 468 = .ok (.ifCond .ne 19, 3) := by decide +kernel
theorem dL_runs_471 : decode cL_runs 471 = .ok (.aload_n 0, 1) := by decide +kernel
theorem dL_runs_472 : decode cL_runs 472 = .ok (.invokevirtual 105, 3) := by decide +kernel
theorem dL_runs_475 : decode cL_runs 475 = .ok (.iconst 4, 1) := by decide +kernel
theorem dL_runs_476 : decode cL_runs 476 = .ok (.if_icmp .ne 11, 3) := by decide +kernel
theorem dL_runs_479 : decode cL_runs 479 = .ok (.aload_n 0, 1) := by decide +kernel

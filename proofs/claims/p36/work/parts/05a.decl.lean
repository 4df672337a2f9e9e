theorem dL_globs_0 : decode cL_globs 0 = .ok (.new 8, 3) := by decide +kernel
theorem dL_globs_3 : decode cL_globs 3 = .ok (.dup, 1) := by decide +kernel
theorem dL_globs_4 : decode cL_globs 4 = .ok (.invokespecial 116, 3) := by decide +kernel
theorem dL_globs_7 : decode cL_globs 7 = .ok (.astore_n 0, 1) := by decide +kernel
theorem dL_globs_8 : decode cL_globs 8 = .ok (.aload_n 0, 1) := by decide +kernel
theorem dL_globs_9 : decode cL_globs 9 = .ok (.invokevirtual 92, 3) := by decide +kernel
theorem dL_globs_12 : decode cL_globs 12 = .ok (.ifCond .ne 143, 3) := by decide +kernel
theorem dL_globs_15 : decode cL_globs 15 = .ok (.aload_n 0, 1) := by decide +kernel
theorem dL_globs_16 : decode cL_globs 16 = .ok (.invokestatic 117, 3) := by decide +kernel
theorem dL_globs_19 : decode cL_globs 19 = .ok (.ifCond .ne 136, 3) := by decide +kernel
theorem dL_globs_22 : decode cL_globs 22 = .ok (.aload_n 0, 1) := by decide +kernel
theorem dL_globs_23 : decode cL_globs 23 = .ok (.bipush 97, 2) := by decide +kernel
theorem dL_globs_25 : decode cL_globs 25 = .ok (.bipush 46, 2) := by decide +kernel
theorem dL_globs_27 : decode cL_globs 27 = .ok (.bipush 46, 2) := by decide +kernel
theorem dL_globs_29 : decode cL_globs 29 = .ok (.bipush 46, 2) := by decide +kernel
theorem dL_globs_31 : decode cL_globs 31 = .ok (.bipush 46, 2) := by decide +kernel
theorem dL_globs_33 : decode cL_globs 33 = .ok (.bipush 46, 2) := by decide +kernel
theorem dL_globs_35 : decode cL_globs 35 = .ok (.bipush 46, 2) := by decide +kernel
theorem dL_globs_37 : decode cL_globs 37 = .ok (.bipush 46, 2) := by decide +kernel
theorem dL_globs_39 : decode cL_globs 39 = .ok (.invokestatic 121, 3) := by decide +kernel
theorem dL_globs_42 : decode cL_globs 42 = .ok (.ifCond .eq 113, 3) := by decide +kernel
theorem dL_globs_45 : decode cL_globs 45 = .ok (.aload_n 0, 1) := by decide +kernel
theorem dL_globs_46 : decode cL_globs 46 = .ok (.invokestatic 117, 3) := by decide +kernel
theorem dL_globs_49 : decode cL_globs 49 = .ok (.iconst 3, 1) := by decide +kernel
theorem dL_globs_50 : decode cL_globs 50 = .ok (.if_icmp .ne 105, 3) := by decide +kernel
theorem dL_globs_53 : decode cL_globs 53 = .ok (.aload_n 0, 1) := by decide +kernel
theorem dL_globs_54 : decode cL_globs 54 = .ok (.bipush 97, 2) := by decide +kernel
theorem dL_globs_56 : decode cL_globs 56 = .ok (.bipush 47, 2) := by decide +kernel
theorem dL_globs_58 : decode cL_globs 58 = .ok (.bipush 46, 2) := by decide +kernel
theorem dL_globs_60 : decode cL_globs 60 = .ok (.bipush 46, 2) := by decide +kernel
theorem dL_globs_62 : decode cL_globs 62 = .ok (.bipush 46, 2) := by decide +kernel
theorem dL_globs_64 : decode cL_globs 64 = .ok (.bipush 46, 2) := by decide +kernel
theorem dL_globs_66 : decode cL_globs 66 = .ok (.bipush 46, 2) := by decide +kernel
theorem dL_globs_68 : decode cL_globs 68 = .ok (.bipush 46, 2) := by decide +kernel
theorem dL_globs_70 : decode cL_globs 70 = .ok (.invokestatic 121, 3) := by decide +kernel
theorem dL_globs_73 : decode cL_globs 73 = .ok (.ifCond .eq 82, 3) := by decide +kernel
theorem dL_globs_76 : decode cL_globs 76 = .ok (.aload_n 0, 1) := by decide +kernel
theorem dL_globs_77 : decode cL_globs 77 = .ok (.invokestatic 117, 3) := by decide +kernel
theorem dL_globs_80 : decode cL_globs 80 = .ok (.ifCond .ne 75, 3) := by decide +kernel
theorem dL_globs_83 : decode cL_globs 83 = .ok (.aload_n 0, 1) := by decide +kernel
theorem dL_globs_84 : decode cL_globs 84 = .ok (.iconst 1, 1) := by decide +kernel
theorem dL_globs_85 : decode cL_globs 85 = .ok (.iconst 5, 1) := by decide +kernel
theorem dL_globs_86 : decode cL_globs 86 = .ok (.iconst 0, 1) := by decide +kernel
theorem dL_globs_87 : decode cL_globs 87 = .ok (.invokestatic 86, 3) := by decide +kernel
theorem dL_globs_90 : decode cL_globs 90 = .ok (.bipush (-32), 2) := by decide +kernel
theorem dL_globs_92 : decode cL_globs 92 = .ok (.if_icmp .ne 63, 3) := by decide +kernel
theorem dL_globs_95 : decode cL_globs 95 = .ok (.aload_n 0, 1) := by decide +kernel
theorem dL_globs_96 : decode cL_globs 96 = .ok (.bipush 47, 2) := by decide +kernel
theorem dL_globs_98 : decode cL_globs 98 = .ok (.bipush 97, 2) := by decide +kernel
theorem dL_globs_100 : decode cL_globs 100 = .ok (.bipush 46, 2) := by decide +kernel
theorem dL_globs_102 : decode cL_globs 102 = .ok (.bipush 46, 2) := by decide +kernel
theorem dL_globs_104 : decode cL_globs 104 = .ok (.bipush 46, 2) := by decide +kernel
theorem dL_globs_106 : decode cL_globs 106 = .ok (.bipush 46, 2) := by decide +kernel
theorem dL_globs_108 : decode cL_globs 108 = .ok (.bipush 46, 2) := by decide +kernel
theorem dL_globs_110 : decode cL_globs 110 = .ok (.bipush 46, 2) := by decide +kernel
theorem dL_globs_112 : decode cL_globs 112 = .ok (.invokestatic 121, 3) := by decide +kernel
theorem dL_globs_115 : decode cL_globs 115 = .ok (.ifCond .eq 40, 3) := by decide +kernel
theorem dL_globs_118 : decode cL_globs 118 = .ok (.aload_n 0, 1) := by decide +kernel
theorem dL_globs_119 : decode cL_globs 119 = .ok (.invokestatic 117, 3) := by decide +kernel
theorem dL_globs_122 : decode cL_globs 122 = .ok (.ifCond .ne 33, 3) := by decide +kernel
theorem dL_globs_125 : decode cL_globs 125 = .ok (.aload_n 0, 1) := by decide +kernel
theorem dL_globs_126 : decode cL_globs 126 = .ok (.bipush 97, 2) := by decide +kernel
theorem dL_globs_128 : decode cL_globs 128 = .ok (.bipush 47, 2) := by decide +kernel
theorem dL_globs_130 : decode cL_globs 130 = .ok (.bipush 47, 2) := by decide +kernel
theorem dL_globs_132 : decode cL_globs 132 = .ok (.bipush 98, 2) := by decide +kernel
theorem dL_globs_134 : decode cL_globs 134 = .ok (.bipush 46, 2) := by decide +kernel
theorem dL_globs_136 : decode cL_globs 136 = .ok (.bipush 46, 2) := by decide +kernel
theorem dL_globs_138 : decode cL_globs 138 = .ok (.bipush 46, 2) := by decide +kernel
theorem dL_globs_140 : decode cL_globs 140 = .ok (.bipush 46, 2) := by decide +kernel
theorem dL_globs_142 : decode cL_globs 142 = .ok (.invokestatic 121, 3) := by decide +kernel
theorem dL_globs_145 : decode cL_globs 145 = .ok (.ifCond .eq 10, 3) := by decide +kernel
theorem dL_globs_148 : decode cL_globs 148 = .ok (.aload_n 0, 1) := by decide +kernel
theorem dL_globs_149 : decode cL_globs 149 = .ok (.invokestatic 117, 3) := by decide +kernel
theorem dL_globs_152 : decode cL_globs 152 = .ok (.ifCond .eq 5, 3) := by decide +kernel
theorem dL_globs_155 : decode cL_globs 155 = .ok (.iconst 0, 1) := by decide +kernel
theorem dL_globs_156 : decode cL_globs 156 = .ok (.ireturn, 1) := by decide +kernel
theorem dL_globs_157 : decode cL_globs 157 = .ok (.aload_n 0, 1) := by decide +kernel
theorem dL_globs_158 : decode cL_globs 158 = .ok (.bipush 97, 2) := by decide +kernel
theorem dL_globs_160 : decode cL_globs 160 = .ok (.bipush 42, 2) := by decide +kernel
theorem dL_globs_162 : decode cL_globs 162 = .ok (.bipush 46, 2) := by decide +kernel
theorem dL_globs_164 : decode cL_globs 164 = .ok (.bipush 46, 2) := by decide +kernel
theorem dL_globs_166 : decode cL_globs 166 = .ok (.bipush 46, 2) := by decide +kernel
theorem dL_globs_168 : decode cL_globs 168 = .ok (.bipush 46, 2) := by decide +kernel
theorem dL_globs_170 : decode cL_globs 170 = .ok (.bipush 46, 2) := by decide +kernel
theorem dL_globs_172 : decode cL_globs 172 = .ok (.bipush 46, 2) := by decide +kernel
theorem dL_globs_174 : decode cL_globs 174 = .ok (.invokestatic 121, 3) := by decide +kernel
theorem dL_globs_177 : decode cL_globs 177 = .ok (.ifCond .eq 131, 3) := by decide +kernel
theorem dL_globs_180 : decode cL_globs 180 = .ok (.aload_n 0, 1) := by decide +kernel
theorem dL_globs_181 : decode cL_globs 181 = .ok (.invokestatic 117, 3) := by decide +kernel
theorem dL_globs_184 : decode cL_globs 184 = .ok (.iconst 2, 1) := by decide +kernel
theorem dL_globs_185 : decode cL_globs 185 = .ok (.if_icmp .ne 123, 3) := by decide +kernel
theorem dL_globs_188 : decode cL_globs 188 = .ok (.aload_n 0, 1) := by decide +kernel
theorem dL_globs_189 : decode cL_globs 189 = .ok (.iconst 1, 1) := by decide +kernel
theorem dL_globs_190 : decode cL_globs 190 = .ok (.iconst 5, 1) := by decide +kernel
theorem dL_globs_191 : decode cL_globs 191 = .ok (.iconst 0, 1) := by decide +kernel
theorem dL_globs_192 : decode cL_globs 192 = .ok (.invokestatic 86, 3) := by decide +kernel
theorem dL_globs_195 : decode cL_globs 195 = .ok (.bipush (-32), 2) := by decide +kernel
theorem dL_globs_197 : decode cL_globs 197 = .ok (.if_icmp .ne 111, 3) := by decide +kernel
theorem dL_globs_200 : decode cL_globs 200 = .ok (.aload_n 0, 1) := by decide +kernel
theorem dL_globs_201 : decode cL_globs 201 = .ok (.bipush 97, 2) := by decide +kernel
theorem dL_globs_203 : decode cL_globs 203 = .ok (.bipush 42, 2) := by decide +kernel
theorem dL_globs_205 : decode cL_globs 205 = .ok (.bipush 42, 2) := by decide +kernel
theorem dL_globs_207 : decode cL_globs 207 = .ok (.bipush 46, 2) := by decide +kernel
theorem dL_globs_209 : decode cL_globs 209 = .ok (.bipush 46, 2) := by decide +kernel
theorem dL_globs_211 : decode cL_globs 211 = .ok (.bipush 46, 2) := by decide +kernel
theorem dL_globs_213 : decode cL_globs 213 = .ok (.bipush 46, 2) := by decide +kernel
theorem dL_globs_215 : decode cL_globs 215 = .ok (.bipush 46, 2) := by decide +kernel
theorem dL_globs_217 : decode cL_globs 217 = .ok (.invokestatic 121, 3) := by decide +kernel
theorem dL_globs_220 : decode cL_globs 220 = .ok (.ifCond .eq 88, 3) := by decide +kernel
theorem dL_globs_223 : decode cL_globs 223 = .ok (.aload_n 0, 1) := by decide +kernel
theorem dL_globs_224 : decode cL_globs 224 = .ok (.invokestatic 117, 3) := by decide +kernel
theorem dL_globs_227 : decode cL_globs 227 = .ok (.ifCond .ne 81, 3) := by decide +kernel
theorem dL_globs_230 : decode cL_globs 230 = .ok (.aload_n 0, 1) := by decide +kernel
theorem dL_globs_231 : decode cL_globs 231 = .ok (.bipush 42, 2) := by decide +kernel
theorem dL_globs_233 : decode cL_globs 233 = .ok (.bipush 42, 2) := by decide +kernel
theorem dL_globs_235 : decode cL_globs 235 = .ok (.bipush 42, 2) := by decide +kernel
theorem dL_globs_237 : decode cL_globs 237 = .ok (.bipush 46, 2) := by decide +kernel
theorem dL_globs_239 : decode cL_globs 239 = .ok (.bipush 46, 2) := by decide +kernel
theorem dL_globs_241 : decode cL_globs 241 = .ok (.bipush 46, 2) := by decide +kernel
theorem dL_globs_243 : decode cL_globs 243 = .ok (.bipush 46, 2) := by decide +kernel
theorem dL_globs_245 : decode cL_globs 245 = .ok (.bipush 46, 2) := by decide +kernel
theorem dL_globs_247 : decode cL_globs 247 = .ok (.invokestatic 121, 3) := by decide +kernel
theorem dL_globs_250 : decode cL_globs 250 = .ok (.ifCond .eq 58, 3) := by decide +kernel
theorem dL_globs_253 : decode cL_globs 253 = .ok (.aload_n 0, 1) := by decide +kernel
theorem dL_globs_254 : decode cL_globs 254 = .ok (.invokestatic 117, 3) := by decide +kernel
theorem dL_globs_257 : decode cL_globs 257 = .ok (.ifCond .ne 51, 3) := by decide +kernel
theorem dL_globs_260 : decode cL_globs 260 = .ok (.aload_n 0, 1) := by decide +kernel
theorem dL_globs_261 : decode cL_globs 261 = .ok (.bipush 42, 2) := by decide +kernel
theorem dL_globs_263 : decode cL_globs 263 = .ok (.bipush 97, 2) := by decide +kernel
theorem dL_globs_265 : decode cL_globs 265 = .ok (.bipush 42, 2) := by decide +kernel
theorem dL_globs_267 : decode cL_globs 267 = .ok (.bipush 47, 2) := by decide +kernel
theorem dL_globs_269 : decode cL_globs 269 = .ok (.bipush 42, 2) := by decide +kernel
theorem dL_globs_271 : decode cL_globs 271 = .ok (.bipush 42, 2) := by decide +kernel
theorem dL_globs_273 : decode cL_globs 273 = .ok (.bipush 46, 2) := by decide +kernel
theorem dL_globs_275 : decode cL_globs 275 = .ok (.bipush 46, 2) := by decide +kernel
theorem dL_globs_277 : decode cL_globs 277 = .ok (.invokestatic 121, 3) := by decide +kernel
theorem dL_globs_280 : decode cL_globs 280 = .ok (.ifCond .eq 28, 3) := by decide +kernel
theorem dL_globs_283 : decode cL_globs 283 = .ok (.aload_n 0, 1) := by decide +kernel
theorem dL_globs_284 : decode cL_globs 284 = .ok (.invokestatic 117, 3) := by decide +kernel
theorem dL_globs_287 : decode cL_globs 287 = .ok (.iconst 2, 1) := by decide +kernel
theorem dL_globs_288 : decode cL_globs 288 = .ok (.if_icmp .ne 20, 3) := by decide +kernel
theorem dL_globs_291 : decode cL_globs 291 = .ok (.aload_n 0, 1) := by decide +kernel
theorem dL_globs_292 : decode cL_globs 292 = .ok (.invokevirtual 92, 3) := by decide +kernel
theorem dL_globs_295 : decode cL_globs 295 = .ok (.bipush 6, 2) := by decide +kernel
theorem dL_globs_297 : decode cL_globs 297 = .ok (.if_icmp .ne 11, 3) := by decide +kernel
theorem dL_globs_300 : decode cL_globs 300 = .ok (.aload_n 0, 1) := by decide +kernel
theorem dL_globs_301 : decode cL_globs 301 = .ok (.invokevirtual 125, 3) := by decide +kernel
theorem dL_globs_304 : decode cL_globs 304 = .ok (.iconst (-1), 1) := by decide +kernel
theorem dL_globs_305 : decode cL_globs 305 = .ok (.if_icmp .eq 5, 3) := by decide +kernel
theorem dL_globs_308 : decode cL_globs 308 = .ok (.iconst 0, 1) := by decide +kernel
theorem dL_globs_309 : decode cL_globs 309 = .ok (.ireturn, 1) := by decide +kernel
theorem dL_globs_310 : decode cL_globs 310 = .ok (.aload_n 0, 1) := by decide +kernel
theorem dL_globs_311 : decode cL_globs 311 = .ok (.bipush 97, 2) := by decide +kernel
theorem dL_globs_313 : decode cL_globs 313 = .ok (.bipush 47, 2) := by decide +kernel
theorem dL_globs_315 : decode cL_globs 315 = .ok (.bipush 98, 2) := by decide +kernel
theorem dL_globs_317 : decode cL_globs 317 = .ok (.bipush 46, 2) := by decide +kernel
theorem dL_globs_319 : decode cL_globs 319 = .ok (.bipush 46, 2) := by decide +kernel
theorem dL_globs_321 : decode cL_globs 321 = .ok (.bipush 46, 2) := by decide +kernel
theorem dL_globs_323 : decode cL_globs 323 = .ok (.bipush 46, 2) := by decide +kernel
theorem dL_globs_325 : decode cL_globs 325 = .ok (.bipush 46, 2) := by decide +kernel
theorem dL_globs_327 : decode cL_globs 327 = .ok (.invokestatic 121, 3) := by decide +kernel
theorem dL_globs_330 : decode cL_globs 330 = .ok (.ifCond .eq 120, 3) := by decide +kernel
theorem dL_globs_333 : decode cL_globs 333 = .ok (.aload_n 0, 1) := by decide +kernel
theorem dL_globs_334 : decode cL_globs 334 = .ok (.invokevirtual 125, 3) := by decide +kernel
theorem dL_globs_337 : decode cL_globs 337 = .ok (.iconst (-1), 1) := by decide +kernel
theorem dL_globs_338 : decode cL_globs 338 = .ok (.if_icmp .ne 112, 3) := by decide +kernel
theorem dL_globs_341 : decode cL_globs 341 = .ok (.aload_n 0, 1) := by decide +kernel
theorem dL_globs_342 : decode cL_globs 342 = .ok (.iconst 1, 1) := by decide +kernel
theorem dL_globs_343 : decode cL_globs 343 = .ok (.invokevirtual 13, 3) := by decide +kernel
theorem dL_globs_346 : decode cL_globs 346 = .ok (.ifCond .ne 104, 3) := by decide +kernel
theorem dL_globs_349 : decode cL_globs 349 = .ok (.aload_n 0, 1) := by decide +kernel
theorem dL_globs_350 : decode cL_globs 350 = .ok (.iconst 1, 1) := by decide +kernel
theorem dL_globs_351 : decode cL_globs 351 = .ok (.iconst 2, 1) := by decide +kernel
theorem dL_globs_352 : decode cL_globs 352 = .ok (.iconst 0, 1) := by decide +kernel
theorem dL_globs_353 : decode cL_globs 353 = .ok (.invokestatic 86, 3) := by decide +kernel
theorem dL_globs_356 : decode cL_globs 356 = .ok (.bipush (-33), 2) := by decide +kernel
theorem dL_globs_358 : decode cL_globs 358 = .ok (.if_icmp .ne 92, 3) := by decide +kernel
theorem dL_globs_361 : decode cL_globs 361 = .ok (.aload_n 0, 1) := by decide +kernel
theorem dL_globs_362 : decode cL_globs 362 = .ok (.invokevirtual 125, 3) := by decide +kernel
theorem dL_globs_365 : decode cL_globs 365 = .ok (.ifCond .ne 85, 3) := by decide +kernel
theorem dL_globs_368 : decode cL_globs 368 = .ok (.aload_n 0, 1) := by decide +kernel
theorem dL_globs_369 : decode cL_globs 369 = .ok (.bipush 97, 2) := by decide +kernel
theorem dL_globs_371 : decode cL_globs 371 = .ok (.bipush 47, 2) := by decide +kernel
theorem dL_globs_373 : decode cL_globs 373 = .ok (.bipush 99, 2) := by decide +kernel
theorem dL_globs_375 : decode cL_globs 375 = .ok (.bipush 47, 2) := by decide +kernel
theorem dL_globs_377 : decode cL_globs 377 = .ok (.bipush 100, 2) := by decide +kernel
theorem dL_globs_379 : decode cL_globs 379 = .ok (.bipush 46, 2) := by decide +kernel
theorem dL_globs_381 : decode cL_globs 381 = .ok (.bipush 46, 2) := by decide +kernel
theorem dL_globs_383 : decode cL_globs 383 = .ok (.bipush 46, 2) := by decide +kernel
theorem dL_globs_385 : decode cL_globs 385 = .ok (.invokestatic 121, 3) := by decide +kernel
theorem dL_globs_388 : decode cL_globs 388 = .ok (.ifCond .eq 62, 3) := by decide +kernel
theorem dL_globs_391 : decode cL_globs 391 = .ok (.aload_n 0, 1) := by decide +kernel
theorem dL_globs_392 : decode cL_globs 392 = .ok (.iconst 3, 1) := by decide +kernel
theorem dL_globs_393 : decode cL_globs 393 = .ok (.invokevirtual 13, 3) := by decide +kernel
theorem dL_globs_396 : decode cL_globs 396 = .ok (.iconst 1, 1) := by decide +kernel
theorem dL_globs_397 : decode cL_globs 397 = .ok (.if_icmp .ne 53, 3) := by decide +kernel
theorem dL_globs_400 : decode cL_globs 400 = .ok (.aload_n 0, 1) := by decide +kernel
theorem dL_globs_401 : decode cL_globs 401 = .ok (.bipush 101, 2) := by decide +kernel
theorem dL_globs_403 : decode cL_globs 403 = .ok (.bipush 46, 2) := by decide +kernel
theorem dL_globs_405 : decode cL_globs 405 = .ok (.bipush 46, 2) := by decide +kernel
theorem dL_globs_407 : decode cL_globs 407 = .ok (.bipush 46, 2) := by decide +kernel
theorem dL_globs_409 : decode cL_globs 409 = .ok (.bipush 46, 2) := by decide +kernel
theorem dL_globs_411 : decode cL_globs 411 = .ok (.bipush 46, 2) := by decide +kernel
theorem dL_globs_413 : decode cL_globs 413 = .ok (.bipush 46, 2) := by decide +kernel
theorem dL_globs_415 : decode cL_globs 415 = .ok (.bipush 46, 2) := by decide +kernel
theorem dL_globs_417 : decode cL_globs 417 = .ok (.invokestatic 121, 3) := by decide +kernel
theorem dL_globs_420 : decode cL_globs 420 = .ok (.ifCond .eq 30, 3) := by decide +kernel
theorem dL_globs_423 : decode cL_globs 423 = .ok (.aload_n 0, 1) := by decide +kernel
theorem dL_globs_424 : decode cL_globs 424 = .ok (.iconst 4, 1) := by decide +kernel
theorem dL_globs_425 : decode cL_globs 425 = .ok (.invokevirtual 13, 3) := by decide +kernel
theorem dL_globs_428 : decode cL_globs 428 = .ok (.iconst 2, 1) := by decide +kernel
theorem dL_globs_429 : decode cL_globs 429 = .ok (.if_icmp .ne 21, 3) := by decide +kernel
theorem dL_globs_432 : decode cL_globs 432 = .ok (.aload_n 0, 1) := by decide +kernel
theorem dL_globs_433 : decode cL_globs 433 = .ok (.invokevirtual 99, 3) := by decide +kernel
theorem dL_globs_436 : decode cL_globs 436 = .ok (.bipush 7, 2) := by decide +kernel
theorem dL_globs_438 : decode cL_globs 438 = .ok (.if_icmp .ne 12, 3) := by decide +kernel
theorem dL_globs_441 : decode cL_globs 441 = .ok (.aload_n 0, 1) := by decide +kernel
theorem dL_globs_442 : decode cL_globs 442 = .ok (.invokevirtual 128, 3) := by decide +kernel
theorem dL_globs_445 : decode cL_globs 445 = .ok (.bipush 7, 2) := by decide +kernel
theorem dL_globs_447 : decode cL_globs 447 = .ok (.if_icmp .eq 5, 3) := by decide +kernel
theorem dL_globs_450 : decode cL_globs 450 = .ok (.iconst 0, 1) := by decide +kernel
theorem dL_globs_451 : decode cL_globs 451 = .ok (.ireturn, 1) := by decide +kernel
theorem dL_globs_452 : decode cL_globs 452 = .ok (.aload_n 0, 1) := by decide +kernel
theorem dL_globs_453 : decode cL_globs 453 = .ok (.bipush 97, 2) := by decide +kernel
theorem dL_globs_455 : decode cL_globs 455 = .ok (.bipush 47, 2) := by decide +kernel
theorem dL_globs_457 : decode cL_globs 457 = .ok (.bipush 42, 2) := by decide +kernel
theorem dL_globs_459 : decode cL_globs 459 = .ok (.bipush 46, 2) := by decide +kernel
theorem dL_globs_461 : decode cL_globs 461 = .ok (.bipush 46, 2) := by decide +kernel
theorem dL_globs_463 : decode cL_globs 463 = .ok (.bipush 46, 2) := by decide +kernel
theorem dL_globs_465 : decode cL_globs 465 = .ok (.bipush 46, 2) := by decide +kernel
theorem dL_globs_467 : decode cL_globs 467 = .ok (.bipush 46, 2) := by decide +kernel
theorem dL_globs_469 : decode cL_globs 469 = .ok (.invokestatic 121, 3) := by decide +kernel
theorem dL_globs_472 : decode cL_globs 472 = .ok (.ifCond .eq 336, 3) := by decide +kernel
theorem dL_globs_475 : decode cL_globs 475 = .ok (.aload_n 0, 1) := by decide +kernel
theorem dL_globs_476 : decode cL_globs 476 = .ok (.iconst 3, 1) := by decide +kernel
theorem dL_globs_477 : decode cL_globs 477 = .ok (.invokestatic 131, 3) := by decide +kernel
theorem dL_globs_480 : decode cL_globs 480 = .ok (.iconst 1, 1) := by decide +kernel
theorem dL_globs_481 : decode cL_globs 481 = .ok (.if_icmp .ne 327, 3) := by decide +kernel
theorem dL_globs_484 : decode cL_globs 484 = .ok (.aload_n 0, 1) := by decide +kernel
theorem dL_globs_485 : decode cL_globs 485 = .ok (.bipush 97, 2) := by decide +kernel
theorem dL_globs_487 : decode cL_globs 487 = .ok (.bipush 47, 2) := by decide +kernel
theorem dL_globs_489 : decode cL_globs 489 = .ok (.bipush 42, 2) := by decide +kernel
theorem dL_globs_491 : decode cL_globs 491 = .ok (.bipush 42, 2) := by decide +kernel
theorem dL_globs_493 : decode cL_globs 493 = .ok (.bipush 46, 2) := by decide +kernel
theorem dL_globs_495 : decode cL_globs 495 = .ok (.bipush 46, 2) := by decide +kernel
theorem dL_globs_497 : decode cL_globs 497 = .ok (.bipush 46, 2) := by decide +kernel
theorem dL_globs_499 : decode cL_globs 499 = .ok (.bipush 46, 2) := by decide +kernel
theorem dL_globs_501 : decode cL_globs 501 = .ok (.invokestatic 121, 3) := by decide +kernel
theorem dL_globs_504 : decode cL_globs 504 = .ok (.ifCond .eq 304, 3) := by decide +kernel
theorem dL_globs_507 : decode cL_globs 507 = .ok (.aload_n 0, 1) := by decide +kernel

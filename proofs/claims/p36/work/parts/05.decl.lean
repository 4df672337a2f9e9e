theorem dL_act_0 : decode cL_act 0 = .ok (.iload_n 1, 1) := by decide +kernel
theorem dL_act_1 : decode cL_act 1 = .ok (.ifCond .ne 12, 3) := by decide +kernel
theorem dL_act_4 : decode cL_act 4 = .ok (.aload_n 0, 1) := by decide +kernel
theorem dL_act_5 : decode cL_act 5 = .ok (.iload_n 2, 1) := by decide +kernel
theorem dL_act_6 : decode cL_act 6 = .ok (.i2c, 1) := by decide +kernel
theorem dL_act_7 : decode cL_act 7 = .ok (.invokevirtual 7, 3) := by decide +kernel
theorem dL_act_10 : decode cL_act 10 = .ok (.goto 293, 3) := by decide +kernel
theorem dL_act_13 : decode cL_act 13 = .ok (.iload_n 1, 1) := by decide +kernel
theorem dL_act_14 : decode cL_act 14 = .ok (.iconst 1, 1) := by decide +kernel
theorem dL_act_15 : decode cL_act 15 = .ok (.if_icmp .ne 11, 3) := by decide +kernel
theorem dL_act_18 : decode cL_act 18 = .ok (.aload_n 0, 1) := by decide +kernel
theorem dL_act_19 : decode cL_act 19 = .ok (.iload_n 2, 1) := by decide +kernel
theorem dL_act_20 : decode cL_act 20 = .ok (.invokevirtual 13, 3) := by decide +kernel
theorem dL_act_23 : decode cL_act 23 = .ok (.goto 280, 3) := by decide +kernel
theorem dL_act_26 : decode cL_act 26 = .ok (.iload_n 1, 1) := by decide +kernel
theorem dL_act_27 : decode cL_act 27 = .ok (.iconst 2, 1) := by decide +kernel
theorem dL_act_28 : decode cL_act 28 = .ok (.if_icmp .ne 12, 3) := by decide +kernel
theorem dL_act_31 : decode cL_act 31 = .ok (.aload_n 0, 1) := by decide +kernel
theorem dL_act_32 : decode cL_act 32 = .ok (.iload_n 2, 1) := by decide +kernel
theorem dL_act_33 : decode cL_act 33 = .ok (.iload_n 3, 1) := by decide +kernel
theorem dL_act_34 : decode cL_act 34 = .ok (.invokevirtual 17, 3) := by decide +kernel
theorem dL_act_37 : decode cL_act 37 = .ok (.goto 266, 3) := by decide +kernel
theorem dL_act_40 : decode cL_act 40 = .ok (.iload_n 1, 1) := by decide +kernel
theorem dL_act_41 : decode cL_act 41 = .ok (.iconst 3, 1) := by decide +kernel
theorem dL_act_42 : decode cL_act 42 = .ok (.if_icmp .ne 11, 3) := by decide +kernel
theorem dL_act_45 : decode cL_act 45 = .ok (.aload_n 0, 1) := by decide +kernel
theorem dL_act_46 : decode cL_act 46 = .ok (.iload_n 2, 1) := by decide +kernel
theorem dL_act_47 : decode cL_act 47 = .ok (.invokevirtual 21, 3) := by decide +kernel
theorem dL_act_50 : decode cL_act 50 = .ok (.goto 253, 3) := by decide +kernel
theorem dL_act_53 : decode cL_act 53 = .ok (.iload_n 1, 1) := by decide +kernel
theorem dL_act_54 : decode cL_act 54 = .ok (.iconst 4, 1) := by decide +kernel
theorem dL_act_55 : decode cL_act 55 = .ok (.if_icmp .ne 19, 3) := by decide +kernel
theorem dL_act_58 : decode cL_act 58 = .ok (.aload_n 0, 1) := by decide +kernel
theorem dL_act_59 : decode cL_act 59 = .ok (.iload_n 2, 1) := by decide +kernel
theorem dL_act_60 : decode cL_act 60 = .ok (.invokevirtual 24, 3) := by decide +kernel
theorem dL_act_63 : decode cL_act 63 = .ok (.ifCond .eq 7, 3) := by decide +kernel
theorem dL_act_66 : decode cL_act 66 = .ok (.iconst 1, 1) := by decide +kernel
theorem dL_act_67 : decode cL_act 67 = .ok (.goto 236, 3) := by decide +kernel
theorem dL_act_70 : decode cL_act 70 = .ok (.iconst 0, 1) := by decide +kernel
theorem dL_act_71 : decode cL_act 71 = .ok (.goto 232, 3) := by decide +kernel
theorem dL_act_74 : decode cL_act 74 = .ok (.iload_n 1, 1) := by decide +kernel
theorem dL_act_75 : decode cL_act 75 = .ok (.iconst 5, 1) := by decide +kernel
theorem dL_act_76 : decode cL_act 76 = .ok (.if_icmp .ne 11, 3) := by decide +kernel
theorem dL_act_79 : decode cL_act 79 = .ok (.aload_n 0, 1) := by decide +kernel
theorem dL_act_80 : decode cL_act 80 = .ok (.iload_n 2, 1) := by decide +kernel
theorem dL_act_81 : decode cL_act 81 = .ok (.invokevirtual 28, 3) := by decide +kernel
theorem dL_act_84 : decode cL_act 84 = .ok (.goto 219, 3) := by decide +kernel
theorem dL_act_87 : decode cL_act 87 = .ok (.iload_n 1, 1) := by decide +kernel
theorem dL_act_88 : decode cL_act 88 = .ok (.bipush 6, 2) := by decide +kernel
theorem dL_act_90 : decode cL_act 90 = .ok (.if_icmp .ne 11, 3) := by decide +kernel
theorem dL_act_93 : decode cL_act 93 = .ok (.aload_n 0, 1) := by decide +kernel
theorem dL_act_94 : decode cL_act 94 = .ok (.iload_n 2, 1) := by decide +kernel
theorem dL_act_95 : decode cL_act 95 = .ok (.invokevirtual 31, 3) := by decide +kernel
theorem dL_act_98 : decode cL_act 98 = .ok (.goto 205, 3) := by decide +kernel
theorem dL_act_101 : decode cL_act 101 = .ok (.iload_n 1, 1) := by decide +kernel
theorem dL_act_102 : decode cL_act 102 = .ok (.bipush 7, 2) := by decide +kernel
theorem dL_act_104 : decode cL_act 104 = .ok (.if_icmp .ne 12, 3) := by decide +kernel
theorem dL_act_107 : decode cL_act 107 = .ok (.aload_n 0, 1) := by decide +kernel
theorem dL_act_108 : decode cL_act 108 = .ok (.iload_n 2, 1) := by decide +kernel
theorem dL_act_109 : decode cL_act 109 = .ok (.iload_n 3, 1) := by decide +kernel
theorem dL_act_110 : decode cL_act 110 = .ok (.invokevirtual 34, 3) := by decide +kernel
theorem dL_act_113 : decode cL_act 113 = .ok (.goto 190, 3) := by decide +kernel
theorem dL_act_116 : decode cL_act 116 = .ok (.iload_n 1, 1) := by decide +kernel
theorem dL_act_117 : decode cL_act 117 = .ok (.bipush 8, 2) := by decide +kernel
theorem dL_act_119 : decode cL_act 119 = .ok (.if_icmp .ne 11, 3) := by decide +kernel
theorem dL_act_122 : decode cL_act 122 = .ok (.aload_n 0, 1) := by decide +kernel
theorem dL_act_123 : decode cL_act 123 = .ok (.iload_n 2, 1) := by decide +kernel
theorem dL_act_124 : decode cL_act 124 = .ok (.invokevirtual 37, 3) := by decide +kernel
theorem dL_act_127 : decode cL_act 127 = .ok (.goto 176, 3) := by decide +kernel
theorem dL_act_130 : decode cL_act 130 = .ok (.iload_n 1, 1) := by decide +kernel
theorem dL_act_131 : decode cL_act 131 = .ok (.bipush 9, 2) := by decide +kernel
theorem dL_act_133 : decode cL_act 133 = .ok (.if_icmp .ne 11, 3) := by decide +kernel
theorem dL_act_136 : decode cL_act 136 = .ok (.aload_n 0, 1) := by decide +kernel
theorem dL_act_137 : decode cL_act 137 = .ok (.iload_n 2, 1) := by decide +kernel
theorem dL_act_138 : decode cL_act 138 = .ok (.invokevirtual 40, 3) := by decide +kernel
theorem dL_act_141 : decode cL_act 141 = .ok (.goto 162, 3) := by decide +kernel
theorem dL_act_144 : decode cL_act 144 = .ok (.iload_n 1, 1) := by decide +kernel
theorem dL_act_145 : decode cL_act 145 = .ok (.bipush 10, 2) := by decide +kernel
theorem dL_act_147 : decode cL_act 147 = .ok (.if_icmp .ne 11, 3) := by decide +kernel
theorem dL_act_150 : decode cL_act 150 = .ok (.aload_n 0, 1) := by decide +kernel
theorem dL_act_151 : decode cL_act 151 = .ok (.iload_n 2, 1) := by decide +kernel
theorem dL_act_152 : decode cL_act 152 = .ok (.invokevirtual 43, 3) := by decide +kernel
theorem dL_act_155 : decode cL_act 155 = .ok (.goto 148, 3) := by decide +kernel
theorem dL_act_158 : decode cL_act 158 = .ok (.iload_n 1, 1) := by decide +kernel
theorem dL_act_159 : decode cL_act 159 = .ok (.bipush 11, 2) := by decide +kernel
theorem dL_act_161 : decode cL_act 161 = .ok (.if_icmp .ne 11, 3) := by decide +kernel
theorem dL_act_164 : decode cL_act 164 = .ok (.aload_n 0, 1) := by decide +kernel
theorem dL_act_165 : decode cL_act 165 = .ok (.iload_n 2, 1) := by decide +kernel
theorem dL_act_166 : decode cL_act 166 = .ok (.invokevirtual 46, 3) := by decide +kernel
theorem dL_act_169 : decode cL_act 169 = .ok (.goto 134, 3) := by decide +kernel
theorem dL_act_172 : decode cL_act 172 = .ok (.iload_n 1, 1) := by decide +kernel
theorem dL_act_173 : decode cL_act 173 = .ok (.bipush 12, 2) := by decide +kernel
theorem dL_act_175 : decode cL_act 175 = .ok (.if_icmp .ne 11, 3) := by decide +kernel
theorem dL_act_178 : decode cL_act 178 = .ok (.aload_n 0, 1) := by decide +kernel
theorem dL_act_179 : decode cL_act 179 = .ok (.iload_n 2, 1) := by decide +kernel
theorem dL_act_180 : decode cL_act 180 = .ok (.invokevirtual 49, 3) := by decide +kernel
theorem dL_act_183 : decode cL_act 183 = .ok (.goto 120, 3) := by decide +kernel
theorem dL_act_186 : decode cL_act 186 = .ok (.iload_n 1, 1) := by decide +kernel
theorem dL_act_187 : decode cL_act 187 = .ok (.bipush 13, 2) := by decide +kernel
theorem dL_act_189 : decode cL_act 189 = .ok (.if_icmp .ne 11, 3) := by decide +kernel
theorem dL_act_192 : decode cL_act 192 = .ok (.aload_n 0, 1) := by decide +kernel
theorem dL_act_193 : decode cL_act 193 = .ok (.iload_n 2, 1) := by decide +kernel
theorem dL_act_194 : decode cL_act 194 = .ok (.invokevirtual 52, 3) := by decide +kernel
theorem dL_act_197 : decode cL_act 197 = .ok (.goto 106, 3) := by decide +kernel
theorem dL_act_200 : decode cL_act 200 = .ok (.iload_n 1, 1) := by decide +kernel
theorem dL_act_201 : decode cL_act 201 = .ok (.bipush 14, 2) := by decide +kernel
theorem dL_act_203 : decode cL_act 203 = .ok (.if_icmp .ne 11, 3) := by decide +kernel
theorem dL_act_206 : decode cL_act 206 = .ok (.aload_n 0, 1) := by decide +kernel
theorem dL_act_207 : decode cL_act 207 = .ok (.iload_n 2, 1) := by decide +kernel
theorem dL_act_208 : decode cL_act 208 = .ok (.invokevirtual 55, 3) := by decide +kernel
theorem dL_act_211 : decode cL_act 211 = .ok (.goto 92, 3) := by decide +kernel
theorem dL_act_214 : decode cL_act 214 = .ok (.iload_n 1, 1) := by decide +kernel
theorem dL_act_215 : decode cL_act 215 = .ok (.bipush 15, 2) := by decide +kernel
theorem dL_act_217 : decode cL_act 217 = .ok (.if_icmp .ne 11, 3) := by decide +kernel
theorem dL_act_220 : decode cL_act 220 = .ok (.aload_n 0, 1) := by decide +kernel
theorem dL_act_221 : decode cL_act 221 = .ok (.iload_n 2, 1) := by decide +kernel
theorem dL_act_222 : decode cL_act 222 = .ok (.invokevirtual 58, 3) := by decide +kernel
theorem dL_act_225 : decode cL_act 225 = .ok (.goto 78, 3) := by decide +kernel
theorem dL_act_228 : decode cL_act 228 = .ok (.iload_n 1, 1) := by decide +kernel
theorem dL_act_229 : decode cL_act 229 = .ok (.bipush 16, 2) := by decide +kernel
theorem dL_act_231 : decode cL_act 231 = .ok (.if_icmp .ne 10, 3) := by decide +kernel
theorem dL_act_234 : decode cL_act 234 = .ok (.aload_n 0, 1) := by decide +kernel
theorem dL_act_235 : decode cL_act 235 = .ok (.invokevirtual 61, 3) := by decide +kernel
theorem dL_act_238 : decode cL_act 238 = .ok (.goto 65, 3) := by decide +kernel
theorem dL_act_241 : decode cL_act 241 = .ok (.iload_n 1, 1) := by decide +kernel
theorem dL_act_242 : decode cL_act 242 = .ok (.bipush 17, 2) := by decide +kernel
theorem dL_act_244 : decode cL_act 244 = .ok (.if_icmp .ne 12, 3) := by decide +kernel
theorem dL_act_247 : decode cL_act 247 = .ok (.aload_n 0, 1) := by decide +kernel
theorem dL_act_248 : decode cL_act 248 = .ok (.iload_n 2, 1) := by decide +kernel
theorem dL_act_249 : decode cL_act 249 = .ok (.iload_n 3, 1) := by decide +kernel
theorem dL_act_250 : decode cL_act 250 = .ok (.invokevirtual 65, 3) := by decide +kernel
theorem dL_act_253 : decode cL_act 253 = .ok (.goto 50, 3) := by decide +kernel
theorem dL_act_256 : decode cL_act 256 = .ok (.iload_n 1, 1) := by decide +kernel
theorem dL_act_257 : decode cL_act 257 = .ok (.bipush 18, 2) := by decide +kernel
theorem dL_act_259 : decode cL_act 259 = .ok (.if_icmp .ne 11, 3) := by decide +kernel
theorem dL_act_262 : decode cL_act 262 = .ok (.aload_n 0, 1) := by decide +kernel
theorem dL_act_263 : decode cL_act 263 = .ok (.iload_n 2, 1) := by decide +kernel
theorem dL_act_264 : decode cL_act 264 = .ok (.invokevirtual 68, 3) := by decide +kernel
theorem dL_act_267 : decode cL_act 267 = .ok (.goto 36, 3) := by decide +kernel
theorem dL_act_270 : decode cL_act 270 = .ok (.iload_n 1, 1) := by decide +kernel
theorem dL_act_271 : decode cL_act 271 = .ok (.bipush 19, 2) := by decide +kernel
theorem dL_act_273 : decode cL_act 273 = .ok (.if_icmp .ne 11, 3) := by decide +kernel
theorem dL_act_276 : decode cL_act 276 = .ok (.aload_n 0, 1) := by decide +kernel
theorem dL_act_277 : decode cL_act 277 = .ok (.iload_n 2, 1) := by decide +kernel
theorem dL_act_278 : decode cL_act 278 = .ok (.invokevirtual 71, 3) := by decide +kernel
theorem dL_act_281 : decode cL_act 281 = .ok (.goto 22, 3) := by decide +kernel
theorem dL_act_284 : decode cL_act 284 = .ok (.iload_n 1, 1) := by decide +kernel
theorem dL_act_285 : decode cL_act 285 = .ok (.bipush 20, 2) := by decide +kernel
theorem dL_act_287 : decode cL_act 287 = .ok (.if_icmp .ne 11, 3) := by decide +kernel
theorem dL_act_290 : decode cL_act 290 = .ok (.aload_n 0, 1) := by decide +kernel
theorem dL_act_291 : decode cL_act 291 = .ok (.iload_n 2, 1) := by decide +kernel
theorem dL_act_292 : decode cL_act 292 = .ok (.invokevirtual 74, 3) := by decide +kernel
theorem dL_act_295 : decode cL_act 295 = .ok (.goto 8, 3) := by decide +kernel
theorem dL_act_298 : decode cL_act 298 = .ok (.aload_n 0, 1) := by decide +kernel
theorem dL_act_299 : decode cL_act 299 = .ok (.iload_n 2, 1) := by decide +kernel
theorem dL_act_300 : decode cL_act 300 = .ok (.invokevirtual 77, 3) := by decide +kernel
theorem dL_act_303 : decode cL_act 303 = .ok (.ireturn, 1) := by decide +kernel
theorem dL_act_304 : decode cL_act 304 = .ok (.astore 4, 2) := by decide +kernel
theorem dL_act_306 : decode cL_act 306 = .ok (.bipush (-31), 2) := by decide +kernel
theorem dL_act_308 : decode cL_act 308 = .ok (.ireturn, 1) := by decide +kernel
theorem dL_act_309 : decode cL_act 309 = .ok (.astore 4, 2) := by decide +kernel
theorem dL_act_311 : decode cL_act 311 = .ok (.bipush (-32), 2) := by decide +kernel
theorem dL_act_313 : decode cL_act 313 = .ok (.ireturn, 1) := by decide +kernel
theorem dL_act_314 : decode cL_act 314 = .ok (.astore 4, 2) := by decide +kernel
theorem dL_act_316 : decode cL_act 316 = .ok (.bipush (-33), 2) := by decide +kernel
theorem dL_act_318 : decode cL_act 318 = .ok (.ireturn, 1) := by decide +kernel
theorem dL_add_0 : decode cL_add 0 = .ok (.iload_n 1, 1) := by decide +kernel
theorem dL_add_1 : decode cL_add 1 = .ok (.bipush 46, 2) := by decide +kernel
theorem dL_add_3 : decode cL_add 3 = .ok (.if_icmp .eq 13, 3) := by decide +kernel
theorem dL_add_6 : decode cL_add 6 = .ok (.aload_n 0, 1) := by decide +kernel
theorem dL_add_7 : decode cL_add 7 = .ok (.iconst 0, 1) := by decide +kernel
theorem dL_add_8 : decode cL_add 8 = .ok (.iload_n 1, 1) := by decide +kernel
theorem dL_add_9 : decode cL_add 9 = .ok (.iconst 0, 1) := by decide +kernel
theorem dL_add_10 : decode cL_add 10 = .ok (.invokestatic 86, 3) := by decide +kernel
theorem dL_add_13 : decode cL_add 13 = .ok (.ifCond .le 7, 3) := by decide +kernel
theorem dL_add_16 : decode cL_add 16 = .ok (.iconst 1, 1) := by decide +kernel
theorem dL_add_17 : decode cL_add 17 = .ok (.goto 4, 3) := by decide +kernel
theorem dL_add_20 : decode cL_add 20 = .ok (.iconst 0, 1) := by decide +kernel
theorem dL_add_21 : decode cL_add 21 = .ok (.ireturn, 1) := by decide +kernel
theorem dL_text_0 : decode cL_text 0 = .ok (.aload_n 0, 1) := by decide +kernel
theorem dL_text_1 : decode cL_text 1 = .ok (.invokevirtual 92, 3) := by decide +kernel
theorem dL_text_4 : decode cL_text 4 = .ok (.pop, 1) := by decide +kernel
theorem dL_text_5 : decode cL_text 5 = .ok (.aload_n 0, 1) := by decide +kernel
theorem dL_text_6 : decode cL_text 6 = .ok (.iload_n 1, 1) := by decide +kernel
theorem dL_text_7 : decode cL_text 7 = .ok (.invokestatic 95, 3) := by decide +kernel
theorem dL_text_10 : decode cL_text 10 = .ok (.ifCond .eq 68, 3) := by decide +kernel
theorem dL_text_13 : decode cL_text 13 = .ok (.aload_n 0, 1) := by decide +kernel
theorem dL_text_14 : decode cL_text 14 = .ok (.iload_n 2, 1) := by decide +kernel
theorem dL_text_15 : decode cL_text 15 = .ok (.invokestatic 95, 3) := by decide +kernel
theorem dL_text_18 : decode cL_text 18 = .ok (.ifCond .eq 60, 3) := by decide +kernel
theorem dL_text_21 : decode cL_text 21 = .ok (.aload_n 0, 1) := by decide +kernel
theorem dL_text_22 : decode cL_text 22 = .ok (.iload_n 3, 1) := by decide +kernel
theorem dL_text_23 : decode cL_text 23 = .ok (.invokestatic 95, 3) := by decide +kernel
theorem dL_text_26 : decode cL_text 26 = .ok (.ifCond .eq 52, 3) := by decide +kernel
theorem dL_text_29 : decode cL_text 29 = .ok (.aload_n 0, 1) := by decide +kernel
theorem dL_text_30 : decode cL_text 30 = .ok (.iload 4, 2) := by decide +kernel
theorem dL_text_32 : decode cL_text 32 = .ok (.invokestatic 95, 3) := by decide +kernel
theorem dL_text_35 : decode cL_text 35 = .ok (.ifCond .eq 43, 3) := by decide +kernel
theorem dL_text_38 : decode cL_text 38 = .ok (.aload_n 0, 1) := by decide +kernel
theorem dL_text_39 : decode cL_text 39 = .ok (.iload 5, 2) := by decide +kernel
theorem dL_text_41 : decode cL_text 41 = .ok (.invokestatic 95, 3) := by decide +kernel
theorem dL_text_44 : decode cL_text 44 = .ok (.ifCond .eq 34, 3) := by decide +kernel
theorem dL_text_47 : decode cL_text 47 = .ok (.aload_n 0, 1) := by decide +kernel
theorem dL_text_48 : decode cL_text 48 = .ok (.iload 6, 2) := by decide +kernel
theorem dL_text_50 : decode cL_text 50 = .ok (.invokestatic 95, 3) := by decide +kernel
theorem dL_text_53 : decode cL_text 53 = .ok (.ifCond .eq 25, 3) := by decide +kernel
theorem dL_text_56 : decode cL_text 56 = .ok (.aload_n 0, 1) := by decide +kernel
theorem dL_text_57 : decode cL_text 57 = .ok (.iload 7, 2) := by decide +kernel
theorem dL_text_59 : decode cL_text 59 = .ok (.invokestatic 95, 3) := by decide +kernel
theorem dL_text_62 : decode cL_text 62 = .ok (.ifCond .eq 16, 3) := by decide +kernel
theorem dL_text_65 : decode cL_text 65 = .ok (.aload_n 0, 1) := by decide +kernel
theorem dL_text_66 : decode cL_text 66 = .ok (.iload 8, 2) := by decide +kernel
theorem dL_text_68 : decode cL_text 68 = .ok (.invokestatic 95, 3) := by decide +kernel
theorem dL_text_71 : decode cL_text 71 = .ok (.ifCond .eq 7, 3) := by decide +kernel
theorem dL_text_74 : decode cL_text 74 = .ok (.iconst 1, 1) := by decide +kernel
theorem dL_text_75 : decode cL_text 75 = .ok (.goto 4, 3) := by decide +kernel
theorem dL_text_78 : decode cL_text 78 = .ok (.iconst 0, 1) := by decide +kernel
theorem dL_text_79 : decode cL_text 79 = .ok (.ireturn, 1) := by decide +kernel
theorem dL_refuses_0 : decode cL_refuses 0 = .ok (.aload_n 0, 1) := by decide +kernel
theorem dL_refuses_1 : decode cL_refuses 1 = .ok (.invokevirtual 99, 3) := by decide +kernel
theorem dL_refuses_4 : decode cL_refuses 4 = .ok (.istore_n 2, 1) := by decide +kernel
theorem dL_refuses_5 : decode cL_refuses 5 = .ok (.aload_n 0, 1) := by decide +kernel
theorem dL_refuses_6 : decode cL_refuses 6 = .ok (.invokevirtual 102, 3) := by decide +kernel
theorem dL_refuses_9 : decode cL_refuses 9 = .ok (.istore_n 3, 1) := by decide +kernel
theorem dL_refuses_10 : decode cL_refuses 10 = .ok (.aload_n 0, 1) := by decide +kernel
theorem dL_refuses_11 : decode cL_refuses 11 = .ok (.invokevirtual 105, 3) := by decide +kernel
theorem dL_refuses_14 : decode cL_refuses 14 = .ok (.istore 4, 2) := by decide +kernel
theorem dL_refuses_16 : decode cL_refuses 16 = .ok (.ldc 108, 2) := by decide +kernel
theorem dL_refuses_18 : decode cL_refuses 18 = .ok (.istore 5, 2) := by decide +kernel
theorem dL_refuses_20 : decode cL_refuses 20 = .ok (.iconst 0, 1) := by decide +kernel
theorem dL_refuses_21 : decode cL_refuses 21 = .ok (.istore 6, 2) := by decide +kernel
theorem dL_refuses_23 : decode cL_refuses 23 = .ok (.iload 6, 2) := by decide +kernel
theorem dL_refuses_25 : decode cL_refuses 25 = .ok (.iconst 4, 1) := by decide +kernel
theorem dL_refuses_26 : decode cL_refuses 26 = .ok (.if_icmp .ge 533, 3) := by decide +kernel
theorem dL_refuses_29 : decode cL_refuses 29 = .ok (.iload 6, 2) := by decide +kernel
theorem dL_refuses_31 : decode cL_refuses 31 = .ok (.ifCond .ne 7, 3) := by decide +kernel
theorem dL_refuses_34 : decode cL_refuses 34 = .ok (.iconst (-1), 1) := by decide +kernel
theorem dL_refuses_35 : decode cL_refuses 35 = .ok (.goto 19, 3) := by decide +kernel
theorem dL_refuses_38 : decode cL_refuses 38 = .ok (.iload 6, 2) := by decide +kernel
theorem dL_refuses_40 : decode cL_refuses 40 = .ok (.iconst 2, 1) := by decide +kernel
theorem dL_refuses_41 : decode cL_refuses 41 = .ok (.if_icmp .ne 8, 3) := by decide +kernel
theorem dL_refuses_44 : decode cL_refuses 44 = .ok (.iload 5, 2) := by decide +kernel
theorem dL_refuses_46 : decode cL_refuses 46 = .ok (.goto 8, 3) := by decide +kernel
theorem dL_refuses_49 : decode cL_refuses 49 = .ok (.iload 5, 2) := by decide +kernel
theorem dL_refuses_51 : decode cL_refuses 51 = .ok (.ineg, 1) := by decide +kernel
theorem dL_refuses_52 : decode cL_refuses 52 = .ok (.iconst 1, 1) := by decide +kernel
theorem dL_refuses_53 : decode cL_refuses 53 = .ok (.isub, 1) := by decide +kernel
theorem dL_refuses_54 : decode cL_refuses 54 = .ok (.istore 7, 2) := by decide +kernel
theorem dL_refuses_56 : decode cL_refuses 56 = .ok (.iload 6, 2) := by decide +kernel
theorem dL_refuses_58 : decode cL_refuses 58 = .ok (.iconst 1, 1) := by decide +kernel
theorem dL_refuses_59 : decode cL_refuses 59 = .ok (.if_icmp .ne 7, 3) := by decide +kernel
theorem dL_refuses_62 : decode cL_refuses 62 = .ok (.iload_n 1, 1) := by decide +kernel
theorem dL_refuses_63 : decode cL_refuses 63 = .ok (.goto 5, 3) := by decide +kernel
theorem dL_refuses_66 : decode cL_refuses 66 = .ok (.iload 7, 2) := by decide +kernel
theorem dL_refuses_68 : decode cL_refuses 68 = .ok (.istore 8, 2) := by decide +kernel
theorem dL_refuses_70 : decode cL_refuses 70 = .ok (.iload 6, 2) := by decide +kernel
theorem dL_refuses_72 : decode cL_refuses 72 = .ok (.iconst 1, 1) := by decide +kernel
theorem dL_refuses_73 : decode cL_refuses 73 = .ok (.if_icmp .ne 7, 3) := by decide +kernel
theorem dL_refuses_76 : decode cL_refuses 76 = .ok (.iload_n 3, 1) := by decide +kernel
theorem dL_refuses_77 : decode cL_refuses 77 = .ok (.goto 5, 3) := by decide +kernel
theorem dL_refuses_80 : decode cL_refuses 80 = .ok (.iload 7, 2) := by decide +kernel
theorem dL_refuses_82 : decode cL_refuses 82 = .ok (.istore 9, 2) := by decide +kernel
theorem dL_refuses_84 : decode cL_refuses 84 = .ok (.iload 6, 2) := by decide +kernel
theorem dL_refuses_86 : decode cL_refuses 86 = .ok (.iconst 1, 1) := by decide +kernel
theorem dL_refuses_87 : decode cL_refuses 87 = .ok (.if_icmp .ne 9, 3) := by decide +kernel
theorem dL_refuses_90 : decode cL_refuses 90 = .ok (.sipush 10000, 3) := by decide +kernel
theorem dL_refuses_93 : decode cL_refuses 93 = .ok (.goto 5, 3) := by decide +kernel
theorem dL_refuses_96 : decode cL_refuses 96 = .ok (.iload 7, 2) := by decide +kernel
theorem dL_refuses_98 : decode cL_refuses 98 = .ok (.istore 10, 2) := by decide +kernel
theorem dL_refuses_100 : decode cL_refuses 100 = .ok (.iload 6, 2) := by decide +kernel
theorem dL_refuses_102 : decode cL_refuses 102 = .ok (.ifCond .ne 7, 3) := by decide +kernel
theorem dL_refuses_105 : decode cL_refuses 105 = .ok (.iconst 0, 1) := by decide +kernel
theorem dL_refuses_106 : decode cL_refuses 106 = .ok (.goto 16, 3) := by decide +kernel
theorem dL_refuses_109 : decode cL_refuses 109 = .ok (.iload 6, 2) := by decide +kernel
theorem dL_refuses_111 : decode cL_refuses 111 = .ok (.iconst 1, 1) := by decide +kernel
theorem dL_refuses_112 : decode cL_refuses 112 = .ok (.if_icmp .ne 8, 3) := by decide +kernel
theorem dL_refuses_115 : decode cL_refuses 115 = .ok (.bipush 9, 2) := by decide +kernel
theorem dL_refuses_117 : decode cL_refuses 117 = .ok (.goto 5, 3) := by decide +kernel
theorem dL_refuses_120 : decode cL_refuses 120 = .ok (.iload 7, 2) := by decide +kernel
theorem dL_refuses_122 : decode cL_refuses 122 = .ok (.istore 11, 2) := by decide +kernel
theorem dL_refuses_124 : decode cL_refuses 124 = .ok (.aload_n 0, 1) := by decide +kernel
theorem dL_refuses_125 : decode cL_refuses 125 = .ok (.iconst 1, 1) := by decide +kernel
theorem dL_refuses_126 : decode cL_refuses 126 = .ok (.iload 10, 2) := by decide +kernel
theorem dL_refuses_128 : decode cL_refuses 128 = .ok (.iconst 0, 1) := by decide +kernel
theorem dL_refuses_129 : decode cL_refuses 129 = .ok (.invokestatic 86, 3) := by decide +kernel
theorem dL_refuses_132 : decode cL_refuses 132 = .ok (.bipush (-32), 2) := by decide +kernel
theorem dL_refuses_134 : decode cL_refuses 134 = .ok (.if_icmp .ne 252, 3) := by decide +kernel
theorem dL_refuses_137 : decode cL_refuses 137 = .ok (.aload_n 0, 1) := by decide +kernel
theorem dL_refuses_138 : decode cL_refuses 138 = .ok (.iconst 2, 1) := by decide +kernel
theorem dL_refuses_139 : decode cL_refuses 139 = .ok (.iload 8, 2) := by decide +kernel
theorem dL_refuses_141 : decode cL_refuses 141 = .ok (.iconst (-1), 1) := by decide +kernel
theorem dL_refuses_142 : decode cL_refuses 142 = .ok (.invokestatic 86, 3) := by decide +kernel
theorem dL_refuses_145 : decode cL_refuses 145 = .ok (.bipush (-31), 2) := by decide +kernel
theorem dL_refuses_147 : decode cL_refuses 147 = .ok (.if_icmp .ne 239, 3) := by decide +kernel
theorem dL_refuses_150 : decode cL_refuses 150 = .ok (.aload_n 0, 1) := by decide +kernel
theorem dL_refuses_151 : decode cL_refuses 151 = .ok (.iconst 3, 1) := by decide +kernel
theorem dL_refuses_152 : decode cL_refuses 152 = .ok (.iload 8, 2) := by decide +kernel
theorem dL_refuses_154 : decode cL_refuses 154 = .ok (.iconst 0, 1) := by decide +kernel
theorem dL_refuses_155 : decode cL_refuses 155 = .ok (.invokestatic 86, 3) := by decide +kernel
theorem dL_refuses_158 : decode cL_refuses 158 = .ok (.bipush (-31), 2) := by decide +kernel
theorem dL_refuses_160 : decode cL_refuses 160 = .ok (.if_icmp .ne 226, 3) := by decide +kernel
theorem dL_refuses_163 : decode cL_refuses 163 = .ok (.aload_n 0, 1) := by decide +kernel
theorem dL_refuses_164 : decode cL_refuses 164 = .ok (.iconst 4, 1) := by decide +kernel
theorem dL_refuses_165 : decode cL_refuses 165 = .ok (.iload 8, 2) := by decide +kernel
theorem dL_refuses_167 : decode cL_refuses 167 = .ok (.iconst 0, 1) := by decide +kernel
theorem dL_refuses_168 : decode cL_refuses 168 = .ok (.invokestatic 86, 3) := by decide +kernel
theorem dL_refuses_171 : decode cL_refuses 171 = .ok (.bipush (-31), 2) := by decide +kernel
theorem dL_refuses_173 : decode cL_refuses 173 = .ok (.if_icmp .ne 213, 3) := by decide +kernel
theorem dL_refuses_176 : decode cL_refuses 176 = .ok (.aload_n 0, 1) := by decide +kernel
theorem dL_refuses_177 : decode cL_refuses 177 = .ok (.iconst 5, 1) := by decide +kernel
theorem dL_refuses_178 : decode cL_refuses 178 = .ok (.iload 6, 2) := by decide +kernel
theorem dL_refuses_180 : decode cL_refuses 180 = .ok (.ifCond .ne 7, 3) := by decide +kernel
theorem dL_refuses_183 : decode cL_refuses 183 = .ok (.iconst 0, 1) := by decide +kernel
theorem dL_refuses_184 : decode cL_refuses 184 = .ok (.goto 17, 3) := by decide +kernel
theorem dL_refuses_187 : decode cL_refuses 187 = .ok (.iload 6, 2) := by decide +kernel
theorem dL_refuses_189 : decode cL_refuses 189 = .ok (.iconst 1, 1) := by decide +kernel
theorem dL_refuses_190 : decode cL_refuses 190 = .ok (.if_icmp .ne 9, 3) := by decide +kernel
theorem dL_refuses_193 : decode cL_refuses 193 = .ok (.sipush 1001, 3) := by decide +kernel
theorem dL_refuses_196 : decode cL_refuses 196 = .ok (.goto 5, 3) := by decide +kernel
theorem dL_refuses_199 : decode cL_refuses 199 = .ok (.iload 7, 2) := by decide +kernel
theorem dL_refuses_201 : decode cL_refuses 201 = .ok (.iconst 0, 1) := by decide +kernel
theorem dL_refuses_202 : decode cL_refuses 202 = .ok (.invokestatic 86, 3) := by decide +kernel
theorem dL_refuses_205 : decode cL_refuses 205 = .ok (.bipush (-32), 2) := by decide +kernel
theorem dL_refuses_207 : decode cL_refuses 207 = .ok (.if_icmp .ne 179, 3) := by decide +kernel
theorem dL_refuses_210 : decode cL_refuses 210 = .ok (.aload_n 0, 1) := by decide +kernel
theorem dL_refuses_211 : decode cL_refuses 211 = .ok (.bipush 7, 2) := by decide +kernel
theorem dL_refuses_213 : decode cL_refuses 213 = .ok (.iload 9, 2) := by decide +kernel
theorem dL_refuses_215 : decode cL_refuses 215 = .ok (.iconst 0, 1) := by decide +kernel
theorem dL_refuses_216 : decode cL_refuses 216 = .ok (.invokestatic 86, 3) := by decide +kernel
theorem dL_refuses_219 : decode cL_refuses 219 = .ok (.bipush (-31), 2) := by decide +kernel
theorem dL_refuses_221 : decode cL_refuses 221 = .ok (.if_icmp .ne 165, 3) := by decide +kernel
theorem dL_refuses_224 : decode cL_refuses 224 = .ok (.aload_n 0, 1) := by decide +kernel
theorem dL_refuses_225 : decode cL_refuses 225 = .ok (.bipush 7, 2) := by decide +kernel
theorem dL_refuses_227 : decode cL_refuses 227 = .ok (.iconst 0, 1) := by decide +kernel
theorem dL_refuses_228 : decode cL_refuses 228 = .ok (.iload 9, 2) := by decide +kernel
theorem dL_refuses_230 : decode cL_refuses 230 = .ok (.invokestatic 86, 3) := by decide +kernel
theorem dL_refuses_233 : decode cL_refuses 233 = .ok (.bipush (-31), 2) := by decide +kernel
theorem dL_refuses_235 : decode cL_refuses 235 = .ok (.if_icmp .ne 151, 3) := by decide +kernel
theorem dL_refuses_238 : decode cL_refuses 238 = .ok (.aload_n 0, 1) := by decide +kernel
theorem dL_refuses_239 : decode cL_refuses 239 = .ok (.bipush 11, 2) := by decide +kernel
theorem dL_refuses_241 : decode cL_refuses 241 = .ok (.iload 8, 2) := by decide +kernel
theorem dL_refuses_243 : decode cL_refuses 243 = .ok (.iconst 0, 1) := by decide +kernel
theorem dL_refuses_244 : decode cL_refuses 244 = .ok (.invokestatic 86, 3) := by decide +kernel
theorem dL_refuses_247 : decode cL_refuses 247 = .ok (.bipush (-31), 2) := by decide +kernel
theorem dL_refuses_249 : decode cL_refuses 249 = .ok (.if_icmp .ne 137, 3) := by decide +kernel
theorem dL_refuses_252 : decode cL_refuses 252 = .ok (.aload_n 0, 1) := by decide +kernel
theorem dL_refuses_253 : decode cL_refuses 253 = .ok (.bipush 12, 2) := by decide +kernel
theorem dL_refuses_255 : decode cL_refuses 255 = .ok (.iload 8, 2) := by decide +kernel
theorem dL_refuses_257 : decode cL_refuses 257 = .ok (.iconst 0, 1) := by decide +kernel
theorem dL_refuses_258 : decode cL_refuses 258 = .ok (.invokestatic 86, 3) := by decide +kernel
theorem dL_refuses_261 : decode cL_refuses 261 = .ok (.bipush (-31), 2) := by decide +kernel
theorem dL_refuses_263 : decode cL_refuses 263 = .ok (.if_icmp .ne 123, 3) := by decide +kernel
theorem dL_refuses_266 : decode cL_refuses 266 = .ok (.aload_n 0, 1) := by decide +kernel
theorem dL_refuses_267 : decode cL_refuses 267 = .ok (.bipush 21, 2) := by decide +kernel
theorem dL_refuses_269 : decode cL_refuses 269 = .ok (.iload 8, 2) := by decide +kernel
theorem dL_refuses_271 : decode cL_refuses 271 = .ok (.iconst 0, 1) := by decide +kernel
theorem dL_refuses_272 : decode cL_refuses 272 = .ok (.invokestatic 86, 3) := by decide +kernel
theorem dL_refuses_275 : decode cL_refuses 275 = .ok (.bipush (-31), 2) := by decide +kernel
theorem dL_refuses_277 : decode cL_refuses 277 = .ok (.if_icmp .ne 109, 3) := by decide +kernel
theorem dL_refuses_280 : decode cL_refuses 280 = .ok (.aload_n 0, 1) := by decide +kernel
theorem dL_refuses_281 : decode cL_refuses 281 = .ok (.bipush 17, 2) := by decide +kernel
theorem dL_refuses_283 : decode cL_refuses 283 = .ok (.iload 9, 2) := by decide +kernel
theorem dL_refuses_285 : decode cL_refuses 285 = .ok (.iconst 0, 1) := by decide +kernel
theorem dL_refuses_286 : decode cL_refuses 286 = .ok (.invokestatic 86, 3) := by decide +kernel
theorem dL_refuses_289 : decode cL_refuses 289 = .ok (.bipush (-31), 2) := by decide +kernel
theorem dL_refuses_291 : decode cL_refuses 291 = .ok (.if_icmp .ne 95, 3) := by decide +kernel
theorem dL_refuses_294 : decode cL_refuses 294 = .ok (.aload_n 0, 1) := by decide +kernel
theorem dL_refuses_295 : decode cL_refuses 295 = .ok (.bipush 17, 2) := by decide +kernel
theorem dL_refuses_297 : decode cL_refuses 297 = .ok (.iconst 0, 1) := by decide +kernel
theorem dL_refuses_298 : decode cL_refuses 298 = .ok (.iload 11, 2) := by decide +kernel
theorem dL_refuses_300 : decode cL_refuses 300 = .ok (.invokestatic 86, 3) := by decide +kernel
theorem dL_refuses_303 : decode cL_refuses 303 = .ok (.bipush (-32), 2) := by decide +kernel
theorem dL_refuses_305 : decode cL_refuses 305 = .ok (.if_icmp .ne 81, 3) := by decide +kernel
theorem dL_refuses_308 : decode cL_refuses 308 = .ok (.aload_n 0, 1) := by decide +kernel
theorem dL_refuses_309 : decode cL_refuses 309 = .ok (.bipush 18, 2) := by decide +kernel
theorem dL_refuses_311 : decode cL_refuses 311 = .ok (.iload 11, 2) := by decide +kernel
theorem dL_refuses_313 : decode cL_refuses 313 = .ok (.iconst 0, 1) := by decide +kernel
theorem dL_refuses_314 : decode cL_refuses 314 = .ok (.invokestatic 86, 3) := by decide +kernel
theorem dL_refuses_317 : decode cL_refuses 317 = .ok (.bipush (-32), 2) := by decide +kernel
theorem dL_refuses_319 : decode cL_refuses 319 = .ok (.if_icmp .ne 67, 3) := by decide +kernel
theorem dL_refuses_322 : decode cL_refuses 322 = .ok (.aload_n 0, 1) := by decide +kernel
theorem dL_refuses_323 : decode cL_refuses 323 = .ok (.bipush 19, 2) := by decide +kernel
theorem dL_refuses_325 : decode cL_refuses 325 = .ok (.iload 6, 2) := by decide +kernel
theorem dL_refuses_327 : decode cL_refuses 327 = .ok (.ifCond .ne 7, 3) := by decide +kernel
theorem dL_refuses_330 : decode cL_refuses 330 = .ok (.iconst 0, 1) := by decide +kernel
theorem dL_refuses_331 : decode cL_refuses 331 = .ok (.goto 17, 3) := by decide +kernel
theorem dL_refuses_334 : decode cL_refuses 334 = .ok (.iload 6, 2) := by decide +kernel
theorem dL_refuses_336 : decode cL_refuses 336 = .ok (.iconst 1, 1) := by decide +kernel
theorem dL_refuses_337 : decode cL_refuses 337 = .ok (.if_icmp .ne 9, 3) := by decide +kernel
theorem dL_refuses_340 : decode cL_refuses 340 = .ok (.sipush 16001, 3) := by decide +kernel
theorem dL_refuses_343 : decode cL_refuses 343 = .ok (.goto 5, 3) := by decide +kernel
theorem dL_refuses_346 : decode cL_refuses 346 = .ok (.iload 7, 2) := by decide +kernel
theorem dL_refuses_348 : decode cL_refuses 348 = .ok (.iconst 0, 1) := by decide +kernel
theorem dL_refuses_349 : decode cL_refuses 349 = .ok (.invokestatic 86, 3) := by decide +kernel
theorem dL_refuses_352 : decode cL_refuses 352 = .ok (.bipush (-32), 2) := by decide +kernel
theorem dL_refuses_354 : decode cL_refuses 354 = .ok (.if_icmp .ne 32, 3) := by decide +kernel
theorem dL_refuses_357 : decode cL_refuses 357 = .ok (.aload_n 0, 1) := by decide +kernel
theorem dL_refuses_358 : decode cL_refuses 358 = .ok (.bipush 20, 2) := by decide +kernel
theorem dL_refuses_360 : decode cL_refuses 360 = .ok (.iload 6, 2) := by decide +kernel
theorem dL_refuses_362 : decode cL_refuses 362 = .ok (.iconst 1, 1) := by decide +kernel
theorem dL_refuses_363 : decode cL_refuses 363 = .ok (.if_icmp .ne 8, 3) := by decide +kernel
theorem dL_refuses_366 : decode cL_refuses 366 = .ok (.bipush 8, 2) := by decide +kernel
theorem dL_refuses_368 : decode cL_refuses 368 = .ok (.goto 5, 3) := by decide +kernel
theorem dL_refuses_371 : decode cL_refuses 371 = .ok (.iload 7, 2) := by decide +kernel
theorem dL_refuses_373 : decode cL_refuses 373 = .ok (.iconst 0, 1) := by decide +kernel
theorem dL_refuses_374 : decode cL_refuses 374 = .ok (.invokestatic 86, 3) := by decide +kernel
theorem dL_refuses_377 : decode cL_refuses 377 = .ok (.bipush (-31), 2) := by decide +kernel
theorem dL_refuses_379 : decode cL_refuses 379 = .ok (.if_icmp .ne 7, 3) := by decide +kernel
theorem dL_refuses_382 : decode cL_refuses 382 = .ok (.iconst 1, 1) := by decide +kernel
theorem dL_refuses_383 : decode cL_refuses 383 = .ok (.goto 4, 3) := by decide +kernel
theorem dL_refuses_386 : decode cL_refuses 386 = .ok (.iconst 0, 1) := by decide +kernel
theorem dL_refuses_387 : decode cL_refuses 387 = .ok (.istore 12, 2) := by decide +kernel
theorem dL_refuses_389 : decode cL_refuses 389 = .ok (.bipush 8, 2) := by decide +kernel
theorem dL_refuses_391 : decode cL_refuses 391 = .ok (.istore 13, 2) := by decide +kernel
theorem dL_refuses_393 : decode cL_refuses 393 = .ok (.iload 13, 2) := by decide +kernel
theorem dL_refuses_395 : decode cL_refuses 395 = .ok (.bipush 11, 2) := by decide +kernel
theorem dL_refuses_397 : decode cL_refuses 397 = .ok (.if_icmp .ge 35, 3) := by decide +kernel
theorem dL_refuses_400 : decode cL_refuses 400 = .ok (.iload 12, 2) := by decide +kernel
theorem dL_refuses_402 : decode cL_refuses 402 = .ok (.ifCond .eq 21, 3) := by decide +kernel
theorem dL_refuses_405 : decode cL_refuses 405 = .ok (.aload_n 0, 1) := by decide +kernel
theorem dL_refuses_406 : decode cL_refuses 406 = .ok (.iload 13, 2) := by decide +kernel
theorem dL_refuses_408 : decode cL_refuses 408 = .ok (.iload 9, 2) := by decide +kernel
theorem dL_refuses_410 : decode cL_refuses 410 = .ok (.iconst 0, 1) := by decide +kernel
theorem dL_refuses_411 : decode cL_refuses 411 = .ok (.invokestatic 86, 3) := by decide +kernel
theorem dL_refuses_414 : decode cL_refuses 414 = .ok (.bipush (-31), 2) := by decide +kernel
theorem dL_refuses_416 : decode cL_refuses 416 = .ok (.if_icmp .ne 7, 3) := by decide +kernel
theorem dL_refuses_419 : decode cL_refuses 419 = .ok (.iconst 1, 1) := by decide +kernel
theorem dL_refuses_420 : decode cL_refuses 420 = .ok (.goto 4, 3) := by decide +kernel
theorem dL_refuses_423 : decode cL_refuses 423 = .ok (.iconst 0, 1) := by decide +kernel
theorem dL_refuses_424 : decode cL_refuses 424 = .ok (.istore 12, 2) := by decide +kernel
theorem dL_refuses_426 : decode cL_refuses 426 = .ok (.iinc 13 1, 3) := by decide +kernel
theorem dL_refuses_429 : decode cL_refuses 429 = .ok (.goto (-36), 3) := by decide +kernel
theorem dL_refuses_432 : decode cL_refuses 432 = .ok (.bipush 13, 2) := by decide +kernel
theorem dL_refuses_434 : decode cL_refuses 434 = .ok (.istore 13, 2) := by decide +kernel
theorem dL_refuses_436 : decode cL_refuses 436 = .ok (.iload 13, 2) := by decide +kernel
theorem dL_refuses_438 : decode cL_refuses 438 = .ok (.bipush 16, 2) := by decide +kernel
theorem dL_refuses_440 : decode cL_refuses 440 = .ok (.if_icmp .ge 35, 3) := by decide +kernel
theorem dL_refuses_443 : decode cL_refuses 443 = .ok (.iload 12, 2) := by decide +kernel
theorem dL_refuses_445 : decode cL_refuses 445 = .ok (.ifCond .eq 21, 3) := by decide +kernel
theorem dL_refuses_448 : decode cL_refuses 448 = .ok (.aload_n 0, 1) := by decide +kernel
theorem dL_refuses_449 : decode cL_refuses 449 = .ok (.iload 13, 2) := by decide +kernel
theorem dL_refuses_451 : decode cL_refuses 451 = .ok (.iload 9, 2) := by decide +kernel
theorem dL_refuses_453 : decode cL_refuses 453 = .ok (.iconst 0, 1) := by decide +kernel
theorem dL_refuses_454 : decode cL_refuses 454 = .ok (.invokestatic 86, 3) := by decide +kernel
theorem dL_refuses_457 : decode cL_refuses 457 = .ok (.bipush (-31), 2) := by decide +kernel
theorem dL_refuses_459 : decode cL_refuses 459 = .ok (.if_icmp .ne 7, 3) := by decide +kernel
theorem dL_refuses_462 : decode cL_refuses 462 = .ok (.iconst 1, 1) := by decide +kernel
theorem dL_refuses_463 : decode cL_refuses 463 = .ok (.goto 4, 3) := by decide +kernel
theorem dL_refuses_466 : decode cL_refuses 466 = .ok (.iconst 0, 1) := by decide +kernel
theorem dL_refuses_467 : decode cL_refuses 467 = .ok (.istore 12, 2) := by decide +kernel
theorem dL_refuses_469 : decode cL_refuses 469 = .ok (.iinc 13 1, 3) := by decide +kernel
theorem dL_refuses_472 : decode cL_refuses 472 = .ok (.goto (-36), 3) := by decide +kernel
theorem dL_refuses_475 : decode cL_refuses 475 = .ok (.iload 12, 2) := by decide +kernel
theorem dL_refuses_477 : decode cL_refuses 477 = .ok (.ifCond .eq 66, 3) := by decide +kernel
theorem dL_refuses_480 : decode cL_refuses 480 = .ok (.aload_n 0, 1) := by decide +kernel
theorem dL_refuses_481 : decode cL_refuses 481 = .ok (.bipush 6, 2) := by decide +kernel
theorem dL_refuses_483 : decode cL_refuses 483 = .ok (.iload 9, 2) := by decide +kernel
theorem dL_refuses_485 : decode cL_refuses 485 = .ok (.iconst 0, 1) := by decide +kernel
theorem dL_refuses_486 : decode cL_refuses 486 = .ok (.invokestatic 86, 3) := by decide +kernel
theorem dL_refuses_489 : decode cL_refuses 489 = .ok (.bipush (-31), 2) := by decide +kernel
theorem dL_refuses_491 : decode cL_refuses 491 = .ok (.if_icmp .ne 52, 3) := by decide +kernel
theorem dL_refuses_494 : decode cL_refuses 494 = .ok (.aload_n 0, 1) := by decide +kernel
theorem dL_refuses_495 : decode cL_refuses 495 = .ok (.iconst 0, 1) := by decide +kernel
theorem dL_refuses_496 : decode cL_refuses 496 = .ok (.iload 6, 2) := by decide +kernel
theorem dL_refuses_498 : decode cL_refuses 498 = .ok (.ifCond .ne 8, 3) := by decide +kernel
theorem dL_refuses_501 : decode cL_refuses 501 = .ok (.bipush 65, 2) := by decide +kernel
theorem dL_refuses_503 : decode cL_refuses 503 = .ok (.goto 27, 3) := by decide +kernel
theorem dL_refuses_506 : decode cL_refuses 506 = .ok (.iload 6, 2) := by decide +kernel
theorem dL_refuses_508 : decode cL_refuses 508 = .ok (.iconst 1, 1) := by decide +kernel
theorem dL_refuses_509 : decode cL_refuses 509 = .ok (.if_icmp .ne 8, 3) := by decide +kernel
theorem dL_refuses_512 : decode cL_refuses 512 = .ok (.bipush 46, 2) := by decide +kernel
theorem dL_refuses_514 : decode cL_refuses 514 = .ok (.goto 16, 3) := by decide +kernel
theorem dL_refuses_517 : decode cL_refuses 517 = .ok (.iload 6, 2) := by decide +kernel
theorem dL_refuses_519 : decode cL_refuses 519 = .ok (.iconst 2, 1) := by decide +kernel
theorem dL_refuses_520 : decode cL_refuses 520 = .ok (.if_icmp .ne 8, 3) := by decide +kernel
theorem dL_refuses_523 : decode cL_refuses 523 = .ok (.bipush 123, 2) := by decide +kernel
theorem dL_refuses_525 : decode cL_refuses 525 = .ok (.goto 5, 3) := by decide +kernel
theorem dL_refuses_528 : decode cL_refuses 528 = .ok (.bipush 48, 2) := by decide +kernel
theorem dL_refuses_530 : decode cL_refuses 530 = .ok (.iconst 0, 1) := by decide +kernel
theorem dL_refuses_531 : decode cL_refuses 531 = .ok (.invokestatic 86, 3) := by decide +kernel
theorem dL_refuses_534 : decode cL_refuses 534 = .ok (.bipush (-32), 2) := by decide +kernel
theorem dL_refuses_536 : decode cL_refuses 536 = .ok (.if_icmp .ne 7, 3) := by decide +kernel
theorem dL_refuses_539 : decode cL_refuses 539 = .ok (.iconst 1, 1) := by decide +kernel
theorem dL_refuses_540 : decode cL_refuses 540 = .ok (.goto 4, 3) := by decide +kernel
theorem dL_refuses_543 : decode cL_refuses 543 = .ok (.iconst 0, 1) := by decide +kernel
theorem dL_refuses_544 : decode cL_refuses 544 = .ok (.istore 12, 2) := by decide +kernel
theorem dL_refuses_546 : decode cL_refuses 546 = .ok (.iload 12, 2) := by decide +kernel
theorem dL_refuses_548 : decode cL_refuses 548 = .ok (.ifCond .ne 5, 3) := by decide +kernel
theorem dL_refuses_551 : decode cL_refuses 551 = .ok (.iconst 0, 1) := by decide +kernel
theorem dL_refuses_552 : decode cL_refuses 552 = .ok (.ireturn, 1) := by decide +kernel
theorem dL_refuses_553 : decode cL_refuses 553 = .ok (.iinc 6 1, 3) := by decide +kernel
theorem dL_refuses_556 : decode cL_refuses 556 = .ok (.goto (-533), 3) := by decide +kernel
theorem dL_refuses_559 : decode cL_refuses 559 = .ok (.aload_n 0, 1) := by decide +kernel
theorem dL_refuses_560 : decode cL_refuses 560 = .ok (.invokevirtual 99, 3) := by decide +kernel
theorem dL_refuses_563 : decode cL_refuses 563 = .ok (.iload_n 2, 1) := by decide +kernel
theorem dL_refuses_564 : decode cL_refuses 564 = .ok (.if_icmp .ne 37, 3) := by decide +kernel
theorem dL_refuses_567 : decode cL_refuses 567 = .ok (.aload_n 0, 1) := by decide +kernel
theorem dL_refuses_568 : decode cL_refuses 568 = .ok (.invokevirtual 102, 3) := by decide +kernel
theorem dL_refuses_571 : decode cL_refuses 571 = .ok (.iload_n 3, 1) := by decide +kernel
theorem dL_refuses_572 : decode cL_refuses 572 = .ok (.if_icmp .ne 29, 3) := by decide +kernel
theorem dL_refuses_575 : decode cL_refuses 575 = .ok (.aload_n 0, 1) := by decide +kernel
theorem dL_refuses_576 : decode cL_refuses 576 = .ok (.invokevirtual 105, 3) := by decide +kernel
theorem dL_refuses_579 : decode cL_refuses 579 = .ok (.iload 4, 2) := by decide +kernel
theorem dL_refuses_581 : decode cL_refuses 581 = .ok (.if_icmp .ne 20, 3) := by decide +kernel
theorem dL_refuses_584 : decode cL_refuses 584 = .ok (.aload_n 0, 1) := by decide +kernel
theorem dL_refuses_585 : decode cL_refuses 585 = .ok (.iconst 0, 1) := by decide +kernel
theorem dL_refuses_586 : decode cL_refuses 586 = .ok (.invokevirtual 46, 3) := by decide +kernel
theorem dL_refuses_589 : decode cL_refuses 589 = .ok (.aload_n 0, 1) := by decide +kernel
theorem dL_refuses_590 : decode cL_refuses 590 = .ok (.iconst 0, 1) := by decide +kernel
theorem dL_refuses_591 : decode cL_refuses 591 = .ok (.invokevirtual 49, 3) := by decide +kernel
theorem dL_refuses_594 : decode cL_refuses 594 = .ok (.if_icmp .ne 7, 3) := by decide +kernel
theorem dL_refuses_597 : decode cL_refuses 597 = .ok (.iconst 1, 1) := by decide +kernel
theorem dL_refuses_598 : decode cL_refuses 598 = .ok (.goto 4, 3) := by decide +kernel
theorem dL_refuses_601 : decode cL_refuses 601 = .ok (.iconst 0, 1) := by decide +kernel
theorem dL_refuses_602 : decode cL_refuses 602 = .ok (.ireturn, 1) := by decide +kernel
theorem dL_kind_0 : decode cL_kind 0 = .ok (.aload_n 0, 1) := by decide +kernel
theorem dL_kind_1 : decode cL_kind 1 = .ok (.invokevirtual 109, 3) := by decide +kernel
theorem dL_kind_4 : decode cL_kind 4 = .ok (.ifCond .eq 7, 3) := by decide +kernel
theorem dL_kind_7 : decode cL_kind 7 = .ok (.iconst 1, 1) := by decide +kernel
theorem dL_kind_8 : decode cL_kind 8 = .ok (.goto 4, 3) := by decide +kernel
theorem dL_kind_11 : decode cL_kind 11 = .ok (.iconst 0, 1) := by decide +kernel
theorem dL_kind_12 : decode cL_kind 12 = .ok (.aload_n 0, 1) := by decide +kernel
theorem dL_kind_13 : decode cL_kind 13 = .ok (.invokevirtual 113, 3) := by decide +kernel
theorem dL_kind_16 : decode cL_kind 16 = .ok (.ifCond .eq 7, 3) := by decide +kernel
theorem dL_kind_19 : decode cL_kind 19 = .ok (.iconst 2, 1) := by decide +kernel
theorem dL_kind_20 : decode cL_kind 20 = .ok (.goto 4, 3) := by decide +kernel
theorem dL_kind_23 : decode cL_kind 23 = .ok (.iconst 0, 1) := by decide +kernel
theorem dL_kind_24 : decode cL_kind 24 = .ok (.iadd, 1) := by decide +kernel
theorem dL_kind_25 : decode cL_kind 25 = .ok (.ireturn, 1) := by decide +kernel
theorem dL_matched_0 : decode cL_matched 0 = .ok (.iconst 0, 1) := by decide +kernel
theorem dL_matched_1 : decode cL_matched 1 = .ok (.istore_n 2, 1) := by decide +kernel
theorem dL_matched_2 : decode cL_matched 2 = .ok (.iconst 0, 1) := by decide +kernel
theorem dL_matched_3 : decode cL_matched 3 = .ok (.istore_n 3, 1) := by decide +kernel
theorem dL_matched_4 : decode cL_matched 4 = .ok (.iload_n 3, 1) := by decide +kernel
theorem dL_matched_5 : decode cL_matched 5 = .ok (.iload_n 1, 1) := by decide +kernel
theorem dL_matched_6 : decode cL_matched 6 = .ok (.if_icmp .ge 30, 3) := by decide +kernel
theorem dL_matched_9 : decode cL_matched 9 = .ok (.iload_n 2, 1) := by decide +kernel
theorem dL_matched_10 : decode cL_matched 10 = .ok (.aload_n 0, 1) := by decide +kernel
theorem dL_matched_11 : decode cL_matched 11 = .ok (.iconst 4, 1) := by decide +kernel
theorem dL_matched_12 : decode cL_matched 12 = .ok (.iload_n 3, 1) := by decide +kernel
theorem dL_matched_13 : decode cL_matched 13 = .ok (.iconst 0, 1) := by decide +kernel
theorem dL_matched_14 : decode cL_matched 14 = .ok (.invokestatic 86, 3) := by decide +kernel
theorem dL_matched_17 : decode cL_matched 17 = .ok (.iconst 1, 1) := by decide +kernel
theorem dL_matched_18 : decode cL_matched 18 = .ok (.if_icmp .ne 9, 3) := by decide +kernel
theorem dL_matched_21 : decode cL_matched 21 = .ok (.iconst 1, 1) := by decide +kernel
theorem dL_matched_22 : decode cL_matched 22 = .ok (.iload_n 3, 1) := by decide +kernel
theorem dL_matched_23 : decode cL_matched 23 = .ok (.ishl, 1) := by decide +kernel
theorem dL_matched_24 : decode cL_matched 24 = .ok (.goto 4, 3) := by decide +kernel
theorem dL_matched_27 : decode cL_matched 27 = .ok (.iconst 0, 1) := by decide +kernel
theorem dL_matched_28 : decode cL_matched 28 = .ok (.ior, 1) := by decide +kernel
theorem dL_matched_29 : decode cL_matched 29 = .ok (.istore_n 2, 1) := by decide +kernel
theorem dL_matched_30 : decode cL_matched 30 = .ok (.iinc 3 1, 3) := by decide +kernel
theorem dL_matched_33 : decode cL_matched 33 = .ok (.goto (-29), 3) := by decide +kernel
theorem dL_matched_36 : decode cL_matched 36 = .ok (.iload_n 2, 1) := by decide +kernel
theorem dL_matched_37 : decode cL_matched 37 = .ok (.ireturn, 1) := by decide +kernel
theorem dL_bounds_0 : decode cL_bounds 0 = .ok (.new 8, 3) := by decide +kernel
theorem dL_bounds_3 : decode cL_bounds 3 = .ok (.dup, 1) := by decide +kernel
theorem dL_bounds_4 : decode cL_bounds 4 = .ok (.invokespecial 116, 3) := by decide +kernel
theorem dL_bounds_7 : decode cL_bounds 7 = .ok (.astore_n 1, 1) := by decide +kernel
theorem dL_bounds_8 : decode cL_bounds 8 = .ok (.aload_n 1, 1) := by decide +kernel
theorem dL_bounds_9 : decode cL_bounds 9 = .ok (.bipush 113, 2) := by decide +kernel
theorem dL_bounds_11 : decode cL_bounds 11 = .ok (.bipush 46, 2) := by decide +kernel
theorem dL_bounds_13 : decode cL_bounds 13 = .ok (.bipush 46, 2) := by decide +kernel
theorem dL_bounds_15 : decode cL_bounds 15 = .ok (.bipush 46, 2) := by decide +kernel
theorem dL_bounds_17 : decode cL_bounds 17 = .ok (.bipush 46, 2) := by decide +kernel
theorem dL_bounds_19 : decode cL_bounds 19 = .ok (.bipush 46, 2) := by decide +kernel
theorem dL_bounds_21 : decode cL_bounds 21 = .ok (.bipush 46, 2) := by decide +kernel
theorem dL_bounds_23 : decode cL_bounds 23 = .ok (.bipush 46, 2) := by decide +kernel
theorem dL_bounds_25 : decode cL_bounds 25 = .ok (.invokestatic 121, 3) := by decide +kernel
theorem dL_bounds_28 : decode cL_bounds 28 = .ok (.ifCond .eq 28, 3) := by decide +kernel
theorem dL_bounds_31 : decode cL_bounds 31 = .ok (.aload_n 1, 1) := by decide +kernel
theorem dL_bounds_32 : decode cL_bounds 32 = .ok (.iconst 0, 1) := by decide +kernel
theorem dL_bounds_33 : decode cL_bounds 33 = .ok (.invokevirtual 13, 3) := by decide +kernel
theorem dL_bounds_36 : decode cL_bounds 36 = .ok (.ifCond .ne 20, 3) := by decide +kernel
theorem dL_bounds_39 : decode cL_bounds 39 = .ok (.aload_n 1, 1) := by decide +kernel
theorem dL_bounds_40 : decode cL_bounds 40 = .ok (.iconst 1, 1) := by decide +kernel
theorem dL_bounds_41 : decode cL_bounds 41 = .ok (.invokevirtual 28, 3) := by decide +kernel
theorem dL_bounds_44 : decode cL_bounds 44 = .ok (.ifCond .ne 12, 3) := by decide +kernel
theorem dL_bounds_47 : decode cL_bounds 47 = .ok (.aload_n 1, 1) := by decide +kernel
theorem dL_bounds_48 : decode cL_bounds 48 = .ok (.iconst 0, 1) := by decide +kernel
theorem dL_bounds_49 : decode cL_bounds 49 = .ok (.invokevirtual 31, 3) := by decide +kernel
theorem dL_bounds_52 : decode cL_bounds 52 = .ok (.iconst 1, 1) := by decide +kernel
theorem dL_bounds_53 : decode cL_bounds 53 = .ok (.if_icmp .eq 5, 3) := by decide +kernel
theorem dL_bounds_56 : decode cL_bounds 56 = .ok (.iconst 0, 1) := by decide +kernel
theorem dL_bounds_57 : decode cL_bounds 57 = .ok (.ireturn, 1) := by decide +kernel
theorem dL_bounds_58 : decode cL_bounds 58 = .ok (.iconst 0, 1) := by decide +kernel
theorem dL_bounds_59 : decode cL_bounds 59 = .ok (.istore_n 2, 1) := by decide +kernel
theorem dL_bounds_60 : decode cL_bounds 60 = .ok (.iload_n 2, 1) := by decide +kernel
theorem dL_bounds_61 : decode cL_bounds 61 = .ok (.sipush 200, 3) := by decide +kernel
theorem dL_bounds_64 : decode cL_bounds 64 = .ok (.if_icmp .ge 41, 3) := by decide +kernel
theorem dL_bounds_67 : decode cL_bounds 67 = .ok (.aload_n 1, 1) := by decide +kernel
theorem dL_bounds_68 : decode cL_bounds 68 = .ok (.iconst 0, 1) := by decide +kernel
theorem dL_bounds_69 : decode cL_bounds 69 = .ok (.iconst 3, 1) := by decide +kernel
theorem dL_bounds_70 : decode cL_bounds 70 = .ok (.iload_n 2, 1) := by decide +kernel
theorem dL_bounds_71 : decode cL_bounds 71 = .ok (.imul, 1) := by decide +kernel
theorem dL_bounds_72 : decode cL_bounds 72 = .ok (.iload_n 0, 1) := by decide +kernel
theorem dL_bounds_73 : decode cL_bounds 73 = .ok (.iadd, 1) := by decide +kernel
theorem dL_bounds_74 : decode cL_bounds 74 = .ok (.invokevirtual 17, 3) := by decide +kernel
theorem dL_bounds_77 : decode cL_bounds 77 = .ok (.pop, 1) := by decide +kernel
theorem dL_bounds_78 : decode cL_bounds 78 = .ok (.aload_n 1, 1) := by decide +kernel
theorem dL_bounds_79 : decode cL_bounds 79 = .ok (.iconst 0, 1) := by decide +kernel
theorem dL_bounds_80 : decode cL_bounds 80 = .ok (.invokevirtual 52, 3) := by decide +kernel
theorem dL_bounds_83 : decode cL_bounds 83 = .ok (.ifCond .ne 14, 3) := by decide +kernel
theorem dL_bounds_86 : decode cL_bounds 86 = .ok (.aload_n 1, 1) := by decide +kernel
theorem dL_bounds_87 : decode cL_bounds 87 = .ok (.iconst 0, 1) := by decide +kernel
theorem dL_bounds_88 : decode cL_bounds 88 = .ok (.invokevirtual 58, 3) := by decide +kernel
theorem dL_bounds_91 : decode cL_bounds 91 = .ok (.iload_n 2, 1) := by decide +kernel
theorem dL_bounds_92 : decode cL_bounds 92 = .ok (.iconst 1, 1) := by decide +kernel
theorem dL_bounds_93 : decode cL_bounds 93 = .ok (.iadd, 1) := by decide +kernel
theorem dL_bounds_94 : decode cL_bounds 94 = .ok (.if_icmp .eq 5, 3) := by decide +kernel
theorem dL_bounds_97 : decode cL_bounds 97 = .ok (.iconst 0, 1) := by decide +kernel
theorem dL_bounds_98 : decode cL_bounds 98 = .ok (.ireturn, 1) := by decide +kernel
theorem dL_bounds_99 : decode cL_bounds 99 = .ok (.iinc 2 1, 3) := by decide +kernel
theorem dL_bounds_102 : decode cL_bounds 102 = .ok (.goto (-42), 3) := by decide +kernel
theorem dL_bounds_105 : decode cL_bounds 105 = .ok (.aload_n 1, 1) := by decide +kernel
theorem dL_bounds_106 : decode cL_bounds 106 = .ok (.iconst 0, 1) := by decide +kernel
theorem dL_bounds_107 : decode cL_bounds 107 = .ok (.sipush 9999, 3) := by decide +kernel
theorem dL_bounds_110 : decode cL_bounds 110 = .ok (.invokevirtual 17, 3) := by decide +kernel
theorem dL_bounds_113 : decode cL_bounds 113 = .ok (.pop, 1) := by decide +kernel
theorem dL_bounds_114 : decode cL_bounds 114 = .ok (.aload_n 1, 1) := by decide +kernel
theorem dL_bounds_115 : decode cL_bounds 115 = .ok (.bipush 15, 2) := by decide +kernel
theorem dL_bounds_117 : decode cL_bounds 117 = .ok (.iconst 0, 1) := by decide +kernel
theorem dL_bounds_118 : decode cL_bounds 118 = .ok (.iconst 0, 1) := by decide +kernel
theorem dL_bounds_119 : decode cL_bounds 119 = .ok (.invokestatic 86, 3) := by decide +kernel
theorem dL_bounds_122 : decode cL_bounds 122 = .ok (.bipush (-33), 2) := by decide +kernel
theorem dL_bounds_124 : decode cL_bounds 124 = .ok (.if_icmp .ne 66, 3) := by decide +kernel
theorem dL_bounds_127 : decode cL_bounds 127 = .ok (.aload_n 1, 1) := by decide +kernel
theorem dL_bounds_128 : decode cL_bounds 128 = .ok (.bipush 16, 2) := by decide +kernel
theorem dL_bounds_130 : decode cL_bounds 130 = .ok (.iconst 0, 1) := by decide +kernel
theorem dL_bounds_131 : decode cL_bounds 131 = .ok (.iconst 0, 1) := by decide +kernel
theorem dL_bounds_132 : decode cL_bounds 132 = .ok (.invokestatic 86, 3) := by decide +kernel
theorem dL_bounds_135 : decode cL_bounds 135 = .ok (.bipush (-33), 2) := by decide +kernel
theorem dL_bounds_137 : decode cL_bounds 137 = .ok (.if_icmp .ne 53, 3) := by decide +kernel
theorem dL_bounds_140 : decode cL_bounds 140 = .ok (.aload_n 1, 1) := by decide +kernel
theorem dL_bounds_141 : decode cL_bounds 141 = .ok (.iconst 0, 1) := by decide +kernel
theorem dL_bounds_142 : decode cL_bounds 142 = .ok (.invokevirtual 55, 3) := by decide +kernel
theorem dL_bounds_145 : decode cL_bounds 145 = .ok (.iconst 2, 1) := by decide +kernel
theorem dL_bounds_146 : decode cL_bounds 146 = .ok (.if_icmp .ne 44, 3) := by decide +kernel
theorem dL_bounds_149 : decode cL_bounds 149 = .ok (.aload_n 1, 1) := by decide +kernel
theorem dL_bounds_150 : decode cL_bounds 150 = .ok (.invokevirtual 105, 3) := by decide +kernel
theorem dL_bounds_153 : decode cL_bounds 153 = .ok (.sipush 200, 3) := by decide +kernel
theorem dL_bounds_156 : decode cL_bounds 156 = .ok (.if_icmp .ne 34, 3) := by decide +kernel
theorem dL_bounds_159 : decode cL_bounds 159 = .ok (.aload_n 1, 1) := by decide +kernel
theorem dL_bounds_160 : decode cL_bounds 160 = .ok (.iconst 0, 1) := by decide +kernel
theorem dL_bounds_161 : decode cL_bounds 161 = .ok (.iload_n 0, 1) := by decide +kernel
theorem dL_bounds_162 : decode cL_bounds 162 = .ok (.bipush 6, 2) := by decide +kernel
theorem dL_bounds_164 : decode cL_bounds 164 = .ok (.iadd, 1) := by decide +kernel
theorem dL_bounds_165 : decode cL_bounds 165 = .ok (.invokevirtual 17, 3) := by decide +kernel
theorem dL_bounds_168 : decode cL_bounds 168 = .ok (.sipush 9999, 3) := by decide +kernel
theorem dL_bounds_171 : decode cL_bounds 171 = .ok (.if_icmp .ne 19, 3) := by decide +kernel
theorem dL_bounds_174 : decode cL_bounds 174 = .ok (.aload_n 1, 1) := by decide +kernel
theorem dL_bounds_175 : decode cL_bounds 175 = .ok (.iconst 0, 1) := by decide +kernel
theorem dL_bounds_176 : decode cL_bounds 176 = .ok (.invokevirtual 58, 3) := by decide +kernel
theorem dL_bounds_179 : decode cL_bounds 179 = .ok (.iconst 3, 1) := by decide +kernel
theorem dL_bounds_180 : decode cL_bounds 180 = .ok (.if_icmp .ne 10, 3) := by decide +kernel
theorem dL_bounds_183 : decode cL_bounds 183 = .ok (.aload_n 1, 1) := by decide +kernel
theorem dL_bounds_184 : decode cL_bounds 184 = .ok (.invokevirtual 61, 3) := by decide +kernel
theorem dL_bounds_187 : decode cL_bounds 187 = .ok (.ifCond .eq 5, 3) := by decide +kernel
theorem dL_bounds_190 : decode cL_bounds 190 = .ok (.iconst 0, 1) := by decide +kernel
theorem dL_bounds_191 : decode cL_bounds 191 = .ok (.ireturn, 1) := by decide +kernel
theorem dL_bounds_192 : decode cL_bounds 192 = .ok (.iconst 1, 1) := by decide +kernel
theorem dL_bounds_193 : decode cL_bounds 193 = .ok (.istore_n 2, 1) := by decide +kernel
theorem dL_bounds_194 : decode cL_bounds 194 = .ok (.iload_n 2, 1) := by decide +kernel
theorem dL_bounds_195 : decode cL_bounds 195 = .ok (.bipush 25, 2) := by decide +kernel
theorem dL_bounds_197 : decode cL_bounds 197 = .ok (.if_icmp .ge 123, 3) := by decide +kernel
theorem dL_bounds_200 : decode cL_bounds 200 = .ok (.aload_n 1, 1) := by decide +kernel
theorem dL_bounds_201 : decode cL_bounds 201 = .ok (.invokevirtual 92, 3) := by decide +kernel
theorem dL_bounds_204 : decode cL_bounds 204 = .ok (.pop, 1) := by decide +kernel
theorem dL_bounds_205 : decode cL_bounds 205 = .ok (.aload_n 1, 1) := by decide +kernel
theorem dL_bounds_206 : decode cL_bounds 206 = .ok (.bipush 97, 2) := by decide +kernel
theorem dL_bounds_208 : decode cL_bounds 208 = .ok (.iload_n 2, 1) := by decide +kernel
theorem dL_bounds_209 : decode cL_bounds 209 = .ok (.bipush 16, 2) := by decide +kernel
theorem dL_bounds_211 : decode cL_bounds 211 = .ok (.irem, 1) := by decide +kernel
theorem dL_bounds_212 : decode cL_bounds 212 = .ok (.iadd, 1) := by decide +kernel
theorem dL_bounds_213 : decode cL_bounds 213 = .ok (.i2c, 1) := by decide +kernel
theorem dL_bounds_214 : decode cL_bounds 214 = .ok (.invokevirtual 7, 3) := by decide +kernel
theorem dL_bounds_217 : decode cL_bounds 217 = .ok (.iconst 1, 1) := by decide +kernel
theorem dL_bounds_218 : decode cL_bounds 218 = .ok (.if_icmp .ne 94, 3) := by decide +kernel
theorem dL_bounds_221 : decode cL_bounds 221 = .ok (.aload_n 1, 1) := by decide +kernel
theorem dL_bounds_222 : decode cL_bounds 222 = .ok (.iload_n 2, 1) := by decide +kernel
theorem dL_bounds_223 : decode cL_bounds 223 = .ok (.bipush 16, 2) := by decide +kernel
theorem dL_bounds_225 : decode cL_bounds 225 = .ok (.if_icmp .ge 8, 3) := by decide +kernel
theorem dL_bounds_228 : decode cL_bounds 228 = .ok (.bipush 120, 2) := by decide +kernel
theorem dL_bounds_230 : decode cL_bounds 230 = .ok (.goto 5, 3) := by decide +kernel
theorem dL_bounds_233 : decode cL_bounds 233 = .ok (.bipush 121, 2) := by decide +kernel
theorem dL_bounds_235 : decode cL_bounds 235 = .ok (.invokevirtual 7, 3) := by decide +kernel
theorem dL_bounds_238 : decode cL_bounds 238 = .ok (.iconst 2, 1) := by decide +kernel
theorem dL_bounds_239 : decode cL_bounds 239 = .ok (.if_icmp .ne 73, 3) := by decide +kernel
theorem dL_bounds_242 : decode cL_bounds 242 = .ok (.aload_n 1, 1) := by decide +kernel
theorem dL_bounds_243 : decode cL_bounds 243 = .ok (.iconst 1, 1) := by decide +kernel
theorem dL_bounds_244 : decode cL_bounds 244 = .ok (.iload_n 2, 1) := by decide +kernel
theorem dL_bounds_245 : decode cL_bounds 245 = .ok (.iconst 0, 1) := by decide +kernel
theorem dL_bounds_246 : decode cL_bounds 246 = .ok (.invokestatic 86, 3) := by decide +kernel
theorem dL_bounds_249 : decode cL_bounds 249 = .ok (.iload_n 2, 1) := by decide +kernel
theorem dL_bounds_250 : decode cL_bounds 250 = .ok (.bipush 24, 2) := by decide +kernel
theorem dL_bounds_252 : decode cL_bounds 252 = .ok (.if_icmp .ge 7, 3) := by decide +kernel
theorem dL_bounds_255 : decode cL_bounds 255 = .ok (.iload_n 2, 1) := by decide +kernel
theorem dL_bounds_256 : decode cL_bounds 256 = .ok (.goto 5, 3) := by decide +kernel
theorem dL_bounds_259 : decode cL_bounds 259 = .ok (.bipush (-33), 2) := by decide +kernel
theorem dL_bounds_261 : decode cL_bounds 261 = .ok (.if_icmp .ne 51, 3) := by decide +kernel
theorem dL_bounds_264 : decode cL_bounds 264 = .ok (.aload_n 1, 1) := by decide +kernel
theorem dL_bounds_265 : decode cL_bounds 265 = .ok (.iconst 5, 1) := by decide +kernel
theorem dL_bounds_266 : decode cL_bounds 266 = .ok (.iload_n 2, 1) := by decide +kernel
theorem dL_bounds_267 : decode cL_bounds 267 = .ok (.iconst 0, 1) := by decide +kernel
theorem dL_bounds_268 : decode cL_bounds 268 = .ok (.invokestatic 86, 3) := by decide +kernel
theorem dL_bounds_271 : decode cL_bounds 271 = .ok (.iload_n 2, 1) := by decide +kernel
theorem dL_bounds_272 : decode cL_bounds 272 = .ok (.bipush 16, 2) := by decide +kernel
theorem dL_bounds_274 : decode cL_bounds 274 = .ok (.if_icmp .ge 7, 3) := by decide +kernel
theorem dL_bounds_277 : decode cL_bounds 277 = .ok (.iload_n 2, 1) := by decide +kernel
theorem dL_bounds_278 : decode cL_bounds 278 = .ok (.goto 5, 3) := by decide +kernel
theorem dL_bounds_281 : decode cL_bounds 281 = .ok (.bipush (-33), 2) := by decide +kernel
theorem dL_bounds_283 : decode cL_bounds 283 = .ok (.if_icmp .ne 29, 3) := by decide +kernel
theorem dL_bounds_286 : decode cL_bounds 286 = .ok (.aload_n 1, 1) := by decide +kernel
theorem dL_bounds_287 : decode cL_bounds 287 = .ok (.bipush 20, 2) := by decide +kernel
theorem dL_bounds_289 : decode cL_bounds 289 = .ok (.iload_n 2, 1) := by decide +kernel
theorem dL_bounds_290 : decode cL_bounds 290 = .ok (.bipush 8, 2) := by decide +kernel
theorem dL_bounds_292 : decode cL_bounds 292 = .ok (.irem, 1) := by decide +kernel
theorem dL_bounds_293 : decode cL_bounds 293 = .ok (.iconst 0, 1) := by decide +kernel
theorem dL_bounds_294 : decode cL_bounds 294 = .ok (.invokestatic 86, 3) := by decide +kernel
theorem dL_bounds_297 : decode cL_bounds 297 = .ok (.iload_n 2, 1) := by decide +kernel
theorem dL_bounds_298 : decode cL_bounds 298 = .ok (.bipush 13, 2) := by decide +kernel
theorem dL_bounds_300 : decode cL_bounds 300 = .ok (.if_icmp .ge 7, 3) := by decide +kernel
theorem dL_bounds_303 : decode cL_bounds 303 = .ok (.iload_n 2, 1) := by decide +kernel
theorem dL_bounds_304 : decode cL_bounds 304 = .ok (.goto 5, 3) := by decide +kernel
theorem dL_bounds_307 : decode cL_bounds 307 = .ok (.bipush (-33), 2) := by decide +kernel
theorem dL_bounds_309 : decode cL_bounds 309 = .ok (.if_icmp .eq 5, 3) := by decide +kernel
theorem dL_bounds_312 : decode cL_bounds 312 = .ok (.iconst 0, 1) := by decide +kernel
theorem dL_bounds_313 : decode cL_bounds 313 = .ok (.ireturn, 1) := by decide +kernel
theorem dL_bounds_314 : decode cL_bounds 314 = .ok (.iinc 2 1, 3) := by decide +kernel
theorem dL_bounds_317 : decode cL_bounds 317 = .ok (.goto (-123), 3) := by decide +kernel
theorem dL_bounds_320 : decode cL_bounds 320 = .ok (.aload_n 1, 1) := by decide +kernel
theorem dL_bounds_321 : decode cL_bounds 321 = .ok (.invokevirtual 99, 3) := by decide +kernel
theorem dL_bounds_324 : decode cL_bounds 324 = .ok (.ldc 148, 2) := by decide +kernel
theorem dL_bounds_326 : decode cL_bounds 326 = .ok (.if_icmp .ne 25, 3) := by decide +kernel
theorem dL_bounds_329 : decode cL_bounds 329 = .ok (.aload_n 1, 1) := by decide +kernel
theorem dL_bounds_330 : decode cL_bounds 330 = .ok (.invokevirtual 135, 3) := by decide +kernel
theorem dL_bounds_333 : decode cL_bounds 333 = .ok (.ldc 149, 2) := by decide +kernel
theorem dL_bounds_335 : decode cL_bounds 335 = .ok (.if_icmp .ne 16, 3) := by decide +kernel
theorem dL_bounds_338 : decode cL_bounds 338 = .ok (.aload_n 1, 1) := by decide +kernel
theorem dL_bounds_339 : decode cL_bounds 339 = .ok (.bipush 24, 2) := by decide +kernel
theorem dL_bounds_341 : decode cL_bounds 341 = .ok (.invokestatic 138, 3) := by decide +kernel
theorem dL_bounds_344 : decode cL_bounds 344 = .ok (.ifCond .eq 7, 3) := by decide +kernel
theorem dL_bounds_347 : decode cL_bounds 347 = .ok (.iconst 1, 1) := by decide +kernel
theorem dL_bounds_348 : decode cL_bounds 348 = .ok (.goto 4, 3) := by decide +kernel
theorem dL_bounds_351 : decode cL_bounds 351 = .ok (.iconst 0, 1) := by decide +kernel
theorem dL_bounds_352 : decode cL_bounds 352 = .ok (.ireturn, 1) := by decide +kernel
theorem dL_law_0 : decode cL_law 0 = .ok (.invokestatic 150, 3) := by decide +kernel
theorem dL_law_3 : decode cL_law 3 = .ok (.ifCond .eq 39, 3) := by decide +kernel
theorem dL_law_6 : decode cL_law 6 = .ok (.invokestatic 153, 3) := by decide +kernel
theorem dL_law_9 : decode cL_law 9 = .ok (.ifCond .eq 33, 3) := by decide +kernel
theorem dL_law_12 : decode cL_law 12 = .ok (.aload_n 0, 1) := by decide +kernel
theorem dL_law_13 : decode cL_law 13 = .ok (.arraylength, 1) := by decide +kernel
theorem dL_law_14 : decode cL_law 14 = .ok (.ifCond .ne 7, 3) := by decide +kernel
theorem dL_law_17 : decode cL_law 17 = .ok (.iconst 0, 1) := by decide +kernel
theorem dL_law_18 : decode cL_law 18 = .ok (.goto 14, 3) := by decide +kernel
theorem dL_law_21 : decode cL_law 21 = .ok (.aload_n 0, 1) := by decide +kernel
theorem dL_law_22 : decode cL_law 22 = .ok (.iconst 0, 1) := by decide +kernel
theorem dL_law_23 : decode cL_law 23 = .ok (.iaload, 1) := by decide +kernel
theorem dL_law_24 : decode cL_law 24 = .ok (.sipush 1023, 3) := by decide +kernel
theorem dL_law_27 : decode cL_law 27 = .ok (.iand, 1) := by decide +kernel
theorem dL_law_28 : decode cL_law 28 = .ok (.sipush 1000, 3) := by decide +kernel
theorem dL_law_31 : decode cL_law 31 = .ok (.irem, 1) := by decide +kernel
theorem dL_law_32 : decode cL_law 32 = .ok (.invokestatic 156, 3) := by decide +kernel
theorem dL_law_35 : decode cL_law 35 = .ok (.ifCond .eq 7, 3) := by decide +kernel
theorem dL_law_38 : decode cL_law 38 = .ok (.iconst 1, 1) := by decide +kernel
theorem dL_law_39 : decode cL_law 39 = .ok (.goto 4, 3) := by decide +kernel
theorem dL_law_42 : decode cL_law 42 = .ok (.iconst 0, 1) := by decide +kernel
theorem dL_law_43 : decode cL_law 43 = .ok (.ireturn, 1) := by decide +kernel

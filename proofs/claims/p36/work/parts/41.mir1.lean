/-! literals; small facts of the pictures; the memory at the beginning -/
theorem rl_m33 {x : Nat} : rv x 4294967263 (-33 : Int32) := rv_l (by decide) (by decide)
theorem rl_m32 {x : Nat} : rv x 4294967264 (-32 : Int32) := rv_l (by decide) (by decide)
theorem rl_m31 {x : Nat} : rv x 4294967265 (-31 : Int32) := rv_l (by decide) (by decide)
theorem rl_m1 {x : Nat} : rv x 4294967295 (-1 : Int32) := rv_l (by decide) (by decide)
theorem rl_0 {x : Nat} : rv x 0 (0 : Int32) := rv_l (by decide) (by decide)
theorem rl_1 {x : Nat} : rv x 1 (1 : Int32) := rv_l (by decide) (by decide)
theorem rl_2 {x : Nat} : rv x 2 (2 : Int32) := rv_l (by decide) (by decide)
theorem rl_3 {x : Nat} : rv x 3 (3 : Int32) := rv_l (by decide) (by decide)
theorem rl_4 {x : Nat} : rv x 4 (4 : Int32) := rv_l (by decide) (by decide)
theorem rl_5 {x : Nat} : rv x 5 (5 : Int32) := rv_l (by decide) (by decide)
theorem rl_6 {x : Nat} : rv x 6 (6 : Int32) := rv_l (by decide) (by decide)
theorem rl_7 {x : Nat} : rv x 7 (7 : Int32) := rv_l (by decide) (by decide)
theorem rl_8 {x : Nat} : rv x 8 (8 : Int32) := rv_l (by decide) (by decide)
theorem rl_9 {x : Nat} : rv x 9 (9 : Int32) := rv_l (by decide) (by decide)
theorem rl_10 {x : Nat} : rv x 10 (10 : Int32) := rv_l (by decide) (by decide)
theorem rl_11 {x : Nat} : rv x 11 (11 : Int32) := rv_l (by decide) (by decide)
theorem rl_12 {x : Nat} : rv x 12 (12 : Int32) := rv_l (by decide) (by decide)
theorem rl_13 {x : Nat} : rv x 13 (13 : Int32) := rv_l (by decide) (by decide)
theorem rl_14 {x : Nat} : rv x 14 (14 : Int32) := rv_l (by decide) (by decide)
theorem rl_15 {x : Nat} : rv x 15 (15 : Int32) := rv_l (by decide) (by decide)
theorem rl_16 {x : Nat} : rv x 16 (16 : Int32) := rv_l (by decide) (by decide)
theorem rl_17 {x : Nat} : rv x 17 (17 : Int32) := rv_l (by decide) (by decide)
theorem rl_18 {x : Nat} : rv x 18 (18 : Int32) := rv_l (by decide) (by decide)
theorem rl_19 {x : Nat} : rv x 19 (19 : Int32) := rv_l (by decide) (by decide)
theorem rl_20 {x : Nat} : rv x 20 (20 : Int32) := rv_l (by decide) (by decide)
theorem rl_21 {x : Nat} : rv x 21 (21 : Int32) := rv_l (by decide) (by decide)
theorem rl_24 {x : Nat} : rv x 24 (24 : Int32) := rv_l (by decide) (by decide)
theorem rl_25 {x : Nat} : rv x 25 (25 : Int32) := rv_l (by decide) (by decide)
theorem rl_29 {x : Nat} : rv x 29 (29 : Int32) := rv_l (by decide) (by decide)
theorem rl_30 {x : Nat} : rv x 30 (30 : Int32) := rv_l (by decide) (by decide)
theorem rl_40 {x : Nat} : rv x 40 (40 : Int32) := rv_l (by decide) (by decide)
theorem rl_42 {x : Nat} : rv x 42 (42 : Int32) := rv_l (by decide) (by decide)
theorem rl_46 {x : Nat} : rv x 46 (46 : Int32) := rv_l (by decide) (by decide)
theorem rl_47 {x : Nat} : rv x 47 (47 : Int32) := rv_l (by decide) (by decide)
theorem rl_48 {x : Nat} : rv x 48 (48 : Int32) := rv_l (by decide) (by decide)
theorem rl_59 {x : Nat} : rv x 59 (59 : Int32) := rv_l (by decide) (by decide)
theorem rl_60 {x : Nat} : rv x 60 (60 : Int32) := rv_l (by decide) (by decide)
theorem rl_63 {x : Nat} : rv x 63 (63 : Int32) := rv_l (by decide) (by decide)
theorem rl_65 {x : Nat} : rv x 65 (65 : Int32) := rv_l (by decide) (by decide)
theorem rl_97 {x : Nat} : rv x 97 (97 : Int32) := rv_l (by decide) (by decide)
theorem rl_98 {x : Nat} : rv x 98 (98 : Int32) := rv_l (by decide) (by decide)
theorem rl_99 {x : Nat} : rv x 99 (99 : Int32) := rv_l (by decide) (by decide)
theorem rl_100 {x : Nat} : rv x 100 (100 : Int32) := rv_l (by decide) (by decide)
theorem rl_101 {x : Nat} : rv x 101 (101 : Int32) := rv_l (by decide) (by decide)
theorem rl_113 {x : Nat} : rv x 113 (113 : Int32) := rv_l (by decide) (by decide)
theorem rl_120 {x : Nat} : rv x 120 (120 : Int32) := rv_l (by decide) (by decide)
theorem rl_121 {x : Nat} : rv x 121 (121 : Int32) := rv_l (by decide) (by decide)
theorem rl_122 {x : Nat} : rv x 122 (122 : Int32) := rv_l (by decide) (by decide)
theorem rl_123 {x : Nat} : rv x 123 (123 : Int32) := rv_l (by decide) (by decide)
theorem rl_200 {x : Nat} : rv x 200 (200 : Int32) := rv_l (by decide) (by decide)
theorem rl_1000 {x : Nat} : rv x 1000 (1000 : Int32) := rv_l (by decide) (by decide)
theorem rl_1001 {x : Nat} : rv x 1001 (1001 : Int32) := rv_l (by decide) (by decide)
theorem rl_9999 {x : Nat} : rv x 9999 (9999 : Int32) := rv_l (by decide) (by decide)
theorem rl_10000 {x : Nat} : rv x 10000 (10000 : Int32) := rv_l (by decide) (by decide)
theorem rl_16000 {x : Nat} : rv x 16000 (16000 : Int32) := rv_l (by decide) (by decide)
theorem rl_16001 {x : Nat} : rv x 16001 (16001 : Int32) := rv_l (by decide) (by decide)
theorem rl_65534 {x : Nat} : rv x 65534 (65534 : Int32) := rv_l (by decide) (by decide)
theorem rl_16777215 {x : Nat} : rv x 16777215 (16777215 : Int32) := rv_l (by decide) (by decide)
theorem rl_252645135 {x : Nat} : rv x 252645135 (252645135 : Int32) := rv_l (by decide) (by decide)
theorem rl_858993459 {x : Nat} : rv x 858993459 (858993459 : Int32) := rv_l (by decide) (by decide)
theorem rl_1431655765 {x : Nat} : rv x 1431655765 (1431655765 : Int32) := rv_l (by decide) (by decide)
theorem rl_2147483647 {x : Nat} : rv x 2147483647 (2147483647 : Int32) := rv_l (by decide) (by decide)
theorem rp_1 {α' α β' β : Type} {P : α' → α → Prop} {Q : β' → β → Prop} {a' : α' × β'} {a : α × β} (h : rp P Q a' a) : P a'.1 a.1 := h.1
theorem rp_2 {α' α β' β : Type} {P : α' → α → Prop} {Q : β' → β → Prop} {a' : α' × β'} {a : α × β} (h : rp P Q a' a) : Q a'.2 a.2 := h.2
theorem rp_m {α' α β' β : Type} {P : α' → α → Prop} {Q : β' → β → Prop} {a' : α'} {a : α} {b' : β'} {b : β} (h1 : P a' a) (h2 : Q b' b) : rp P Q (a', b') (a, b) := ⟨h1, h2⟩
theorem rs_l {α' α β' β : Type} {P : α' → α → Prop} {Q : β' → β → Prop} {a' : α'} {a : α} (h : P a' a) : rs P Q (.inl a') (.inl a) := h
theorem rs_r {α' α β' β : Type} {P : α' → α → Prop} {Q : β' → β → Prop} {b' : β'} {b : β} (h : Q b' b) : rs P Q (.inr b') (.inr b) := h
theorem ln_le (k : Nat) : ln k ≤ 201 := by
  unfold ln
  repeat' split
  all_goals decide
/-- out of a piece of the law, into the next -/
def Zex (x : Nat) (F : Mem → Option Int32) : RT → Option Int32 → Prop := fun R o => ∃ C, rm x R C ∧ o = F C
theorem rz_out {x : Nat} {F : Mem → Option Int32} {R : RT} {C : Mem} (h : rm x R C) : RZ (Zex x F) (some R) (F C) := fun _ e => by cases e; exact ⟨C, h, rfl⟩
set_option maxRecDepth 100000 in
def R0 : RT := (.branch 237 (.branch 118 (.branch 59 (.branch 29 (.branch 14 (.branch 7 (.branch 3 (.branch 1 (.leaf 0) (.branch 2 (.leaf 0) (.leaf 0))) (.branch 5 (.branch 4 (.leaf 0) (.leaf 0)) (.branch 6 (.leaf 0) (.leaf 0)))) (.branch 10 (.branch 8 (.leaf 0) (.branch 9 (.leaf 0) (.leaf 0))) (.branch 12 (.branch 11 (.leaf 0) (.leaf 0)) (.branch 13 (.leaf 0) (.leaf 0))))) (.branch 21 (.branch 17 (.branch 15 (.leaf 0) (.branch 16 (.leaf 0) (.leaf 0))) (.branch 19 (.branch 18 (.leaf 0) (.leaf 0)) (.branch 20 (.leaf 0) (.leaf 0)))) (.branch 25 (.branch 23 (.branch 22 (.leaf 0) (.leaf 0)) (.branch 24 (.leaf 0) (.leaf 0))) (.branch 27 (.branch 26 (.leaf 0) (.leaf 0)) (.branch 28 (.leaf 0) (.leaf 0)))))) (.branch 44 (.branch 36 (.branch 32 (.branch 30 (.leaf 0) (.branch 31 (.leaf 0) (.leaf 0))) (.branch 34 (.branch 33 (.leaf 0) (.leaf 0)) (.branch 35 (.leaf 0) (.leaf 0)))) (.branch 40 (.branch 38 (.branch 37 (.leaf 0) (.leaf 0)) (.branch 39 (.leaf 0) (.leaf 0))) (.branch 42 (.branch 41 (.leaf 0) (.leaf 0)) (.branch 43 (.leaf 0) (.leaf 0))))) (.branch 51 (.branch 47 (.branch 45 (.leaf 0) (.branch 46 (.leaf 0) (.leaf 0))) (.branch 49 (.branch 48 (.leaf 0) (.leaf 0)) (.branch 50 (.leaf 0) (.leaf 0)))) (.branch 55 (.branch 53 (.branch 52 (.leaf 0) (.leaf 0)) (.branch 54 (.leaf 0) (.leaf 0))) (.branch 57 (.branch 56 (.leaf 0) (.leaf 0)) (.branch 58 (.leaf 0) (.leaf 0))))))) (.branch 88 (.branch 73 (.branch 66 (.branch 62 (.branch 60 (.leaf 0) (.branch 61 (.leaf 1361129467683753853853498429727072845824) (.leaf 0))) (.branch 64 (.branch 63 (.leaf 0) (.leaf 0)) (.branch 65 (.leaf 0) (.leaf 0)))) (.branch 69 (.branch 67 (.leaf 0) (.branch 68 (.leaf 0) (.leaf 0))) (.branch 71 (.branch 70 (.leaf 0) (.leaf 0)) (.branch 72 (.leaf 1361129467683753853853498429727072845824) (.leaf 0))))) (.branch 80 (.branch 76 (.branch 74 (.leaf 0) (.branch 75 (.leaf 0) (.leaf 0))) (.branch 78 (.branch 77 (.leaf 0) (.leaf 0)) (.branch 79 (.leaf 0) (.leaf 0)))) (.branch 84 (.branch 82 (.branch 81 (.leaf 0) (.leaf 0)) (.branch 83 (.leaf 1361129467683753853853498429727072845824) (.leaf 0))) (.branch 86 (.branch 85 (.leaf 0) (.leaf 0)) (.branch 87 (.leaf 0) (.leaf 0)))))) (.branch 103 (.branch 95 (.branch 91 (.branch 89 (.leaf 0) (.branch 90 (.leaf 0) (.leaf 0))) (.branch 93 (.branch 92 (.leaf 0) (.leaf 0)) (.branch 94 (.leaf 1361129467683753853853498429727072845824) (.leaf 0)))) (.branch 99 (.branch 97 (.branch 96 (.leaf 0) (.leaf 0)) (.branch 98 (.leaf 0) (.leaf 0))) (.branch 101 (.branch 100 (.leaf 0) (.leaf 0)) (.branch 102 (.leaf 0) (.leaf 0))))) (.branch 110 (.branch 106 (.branch 104 (.leaf 0) (.branch 105 (.leaf 1361129467683753853853498429727072845824) (.leaf 0))) (.branch 108 (.branch 107 (.leaf 0) (.leaf 0)) (.branch 109 (.leaf 0) (.leaf 0)))) (.branch 114 (.branch 112 (.branch 111 (.leaf 0) (.leaf 0)) (.branch 113 (.leaf 0) (.leaf 0))) (.branch 116 (.branch 115 (.leaf 0) (.leaf 1361129467683753853853498429727072845824)) (.branch 117 (.leaf 0) (.leaf 0)))))))) (.branch 177 (.branch 147 (.branch 132 (.branch 125 (.branch 121 (.branch 119 (.leaf 0) (.branch 120 (.leaf 0) (.leaf 0))) (.branch 123 (.branch 122 (.leaf 0) (.leaf 0)) (.branch 124 (.leaf 0) (.leaf 0)))) (.branch 128 (.branch 126 (.leaf 0) (.branch 127 (.leaf 1361129467683753853853498429727072845824) (.leaf 0))) (.branch 130 (.branch 129 (.leaf 0) (.leaf 0)) (.branch 131 (.leaf 0) (.leaf 0))))) (.branch 139 (.branch 135 (.branch 133 (.leaf 0) (.branch 134 (.leaf 0) (.leaf 0))) (.branch 137 (.branch 136 (.leaf 0) (.leaf 0)) (.branch 138 (.leaf 1361129467683753853853498429727072845824) (.leaf 0)))) (.branch 143 (.branch 141 (.branch 140 (.leaf 0) (.leaf 0)) (.branch 142 (.leaf 0) (.leaf 0))) (.branch 145 (.branch 144 (.leaf 0) (.leaf 0)) (.branch 146 (.leaf 0) (.leaf 0)))))) (.branch 162 (.branch 154 (.branch 150 (.branch 148 (.leaf 0) (.branch 149 (.leaf 1361129467683753853853498429727072845824) (.leaf 0))) (.branch 152 (.branch 151 (.leaf 0) (.leaf 0)) (.branch 153 (.leaf 0) (.leaf 0)))) (.branch 158 (.branch 156 (.branch 155 (.leaf 0) (.leaf 0)) (.branch 157 (.leaf 0) (.leaf 0))) (.branch 160 (.branch 159 (.leaf 0) (.leaf 1361129467683753853853498429727072845824)) (.branch 161 (.leaf 0) (.leaf 0))))) (.branch 169 (.branch 165 (.branch 163 (.leaf 0) (.branch 164 (.leaf 0) (.leaf 0))) (.branch 167 (.branch 166 (.leaf 0) (.leaf 0)) (.branch 168 (.leaf 0) (.leaf 0)))) (.branch 173 (.branch 171 (.branch 170 (.leaf 0) (.leaf 1361129467683753853853498429727072845824)) (.branch 172 (.leaf 0) (.leaf 0))) (.branch 175 (.branch 174 (.leaf 0) (.leaf 0)) (.branch 176 (.leaf 0) (.leaf 0))))))) (.branch 207 (.branch 192 (.branch 184 (.branch 180 (.branch 178 (.leaf 0) (.branch 179 (.leaf 0) (.leaf 0))) (.branch 182 (.branch 181 (.leaf 0) (.leaf 1361129467683753853853498429727072845824)) (.branch 183 (.leaf 0) (.leaf 0)))) (.branch 188 (.branch 186 (.branch 185 (.leaf 0) (.leaf 0)) (.branch 187 (.leaf 0) (.leaf 0))) (.branch 190 (.branch 189 (.leaf 0) (.leaf 0)) (.branch 191 (.leaf 0) (.leaf 0))))) (.branch 199 (.branch 195 (.branch 193 (.leaf 1361129467683753853853498429727072845824) (.branch 194 (.leaf 0) (.leaf 0))) (.branch 197 (.branch 196 (.leaf 0) (.leaf 0)) (.branch 198 (.leaf 0) (.leaf 0)))) (.branch 203 (.branch 201 (.branch 200 (.leaf 0) (.leaf 0)) (.branch 202 (.leaf 0) (.leaf 0))) (.branch 205 (.branch 204 (.leaf 1361129467683753853853498429727072845824) (.leaf 0)) (.branch 206 (.leaf 0) (.leaf 0)))))) (.branch 222 (.branch 214 (.branch 210 (.branch 208 (.leaf 0) (.branch 209 (.leaf 0) (.leaf 0))) (.branch 212 (.branch 211 (.leaf 0) (.leaf 0)) (.branch 213 (.leaf 0) (.leaf 0)))) (.branch 218 (.branch 216 (.branch 215 (.leaf 1361129467683753853853498429727072845824) (.leaf 0)) (.branch 217 (.leaf 0) (.leaf 0))) (.branch 220 (.branch 219 (.leaf 0) (.leaf 0)) (.branch 221 (.leaf 0) (.leaf 0))))) (.branch 229 (.branch 225 (.branch 223 (.leaf 0) (.branch 224 (.leaf 0) (.leaf 0))) (.branch 227 (.branch 226 (.leaf 1361129467683753853853498429727072845824) (.leaf 0)) (.branch 228 (.leaf 0) (.leaf 0)))) (.branch 233 (.branch 231 (.branch 230 (.leaf 0) (.leaf 0)) (.branch 232 (.leaf 0) (.leaf 0))) (.branch 235 (.branch 234 (.leaf 0) (.leaf 0)) (.branch 236 (.leaf 0) (.leaf 0))))))))) (.branch 356 (.branch 296 (.branch 266 (.branch 251 (.branch 244 (.branch 240 (.branch 238 (.leaf 0) (.branch 239 (.leaf 0) (.leaf 0))) (.branch 242 (.branch 241 (.leaf 0) (.leaf 0)) (.branch 243 (.leaf 0) (.leaf 0)))) (.branch 247 (.branch 245 (.leaf 0) (.branch 246 (.leaf 0) (.leaf 0))) (.branch 249 (.branch 248 (.leaf 0) (.leaf 0)) (.branch 250 (.leaf 0) (.leaf 0))))) (.branch 258 (.branch 254 (.branch 252 (.leaf 0) (.branch 253 (.leaf 0) (.leaf 0))) (.branch 256 (.branch 255 (.leaf 0) (.leaf 0)) (.branch 257 (.leaf 0) (.leaf 0)))) (.branch 262 (.branch 260 (.branch 259 (.leaf 0) (.leaf 0)) (.branch 261 (.leaf 0) (.leaf 0))) (.branch 264 (.branch 263 (.leaf 0) (.leaf 0)) (.branch 265 (.leaf 0) (.leaf 0)))))) (.branch 281 (.branch 273 (.branch 269 (.branch 267 (.leaf 0) (.branch 268 (.leaf 0) (.leaf 0))) (.branch 271 (.branch 270 (.leaf 0) (.leaf 0)) (.branch 272 (.leaf 0) (.leaf 0)))) (.branch 277 (.branch 275 (.branch 274 (.leaf 0) (.leaf 0)) (.branch 276 (.leaf 0) (.leaf 0))) (.branch 279 (.branch 278 (.leaf 0) (.leaf 0)) (.branch 280 (.leaf 0) (.leaf 0))))) (.branch 288 (.branch 284 (.branch 282 (.leaf 0) (.branch 283 (.leaf 0) (.leaf 0))) (.branch 286 (.branch 285 (.leaf 0) (.leaf 0)) (.branch 287 (.leaf 0) (.leaf 0)))) (.branch 292 (.branch 290 (.branch 289 (.leaf 0) (.leaf 0)) (.branch 291 (.leaf 0) (.leaf 0))) (.branch 294 (.branch 293 (.leaf 0) (.leaf 0)) (.branch 295 (.leaf 0) (.leaf 0))))))) (.branch 326 (.branch 311 (.branch 303 (.branch 299 (.branch 297 (.leaf 0) (.branch 298 (.leaf 0) (.leaf 0))) (.branch 301 (.branch 300 (.leaf 0) (.leaf 0)) (.branch 302 (.leaf 0) (.leaf 0)))) (.branch 307 (.branch 305 (.branch 304 (.leaf 0) (.leaf 0)) (.branch 306 (.leaf 0) (.leaf 0))) (.branch 309 (.branch 308 (.leaf 0) (.leaf 0)) (.branch 310 (.leaf 0) (.leaf 0))))) (.branch 318 (.branch 314 (.branch 312 (.leaf 0) (.branch 313 (.leaf 0) (.leaf 0))) (.branch 316 (.branch 315 (.leaf 0) (.leaf 0)) (.branch 317 (.leaf 0) (.leaf 0)))) (.branch 322 (.branch 320 (.branch 319 (.leaf 0) (.leaf 0)) (.branch 321 (.leaf 0) (.leaf 0))) (.branch 324 (.branch 323 (.leaf 0) (.leaf 0)) (.branch 325 (.leaf 0) (.leaf 0)))))) (.branch 341 (.branch 333 (.branch 329 (.branch 327 (.leaf 0) (.branch 328 (.leaf 0) (.leaf 0))) (.branch 331 (.branch 330 (.leaf 0) (.leaf 0)) (.branch 332 (.leaf 0) (.leaf 0)))) (.branch 337 (.branch 335 (.branch 334 (.leaf 0) (.leaf 0)) (.branch 336 (.leaf 0) (.leaf 0))) (.branch 339 (.branch 338 (.leaf 0) (.leaf 0)) (.branch 340 (.leaf 0) (.leaf 0))))) (.branch 348 (.branch 344 (.branch 342 (.leaf 0) (.branch 343 (.leaf 0) (.leaf 0))) (.branch 346 (.branch 345 (.leaf 0) (.leaf 0)) (.branch 347 (.leaf 0) (.leaf 0)))) (.branch 352 (.branch 350 (.branch 349 (.leaf 0) (.leaf 0)) (.branch 351 (.leaf 0) (.leaf 0))) (.branch 354 (.branch 353 (.leaf 0) (.leaf 0)) (.branch 355 (.leaf 0) (.leaf 0)))))))) (.branch 415 (.branch 385 (.branch 370 (.branch 363 (.branch 359 (.branch 357 (.leaf 0) (.branch 358 (.leaf 0) (.leaf 0))) (.branch 361 (.branch 360 (.leaf 0) (.leaf 0)) (.branch 362 (.leaf 0) (.leaf 0)))) (.branch 366 (.branch 364 (.leaf 0) (.branch 365 (.leaf 0) (.leaf 0))) (.branch 368 (.branch 367 (.leaf 0) (.leaf 0)) (.branch 369 (.leaf 0) (.leaf 0))))) (.branch 377 (.branch 373 (.branch 371 (.leaf 0) (.branch 372 (.leaf 0) (.leaf 0))) (.branch 375 (.branch 374 (.leaf 0) (.leaf 0)) (.branch 376 (.leaf 0) (.leaf 0)))) (.branch 381 (.branch 379 (.branch 378 (.leaf 0) (.leaf 0)) (.branch 380 (.leaf 0) (.leaf 0))) (.branch 383 (.branch 382 (.leaf 0) (.leaf 0)) (.branch 384 (.leaf 0) (.leaf 0)))))) (.branch 400 (.branch 392 (.branch 388 (.branch 386 (.leaf 0) (.branch 387 (.leaf 0) (.leaf 0))) (.branch 390 (.branch 389 (.leaf 0) (.leaf 0)) (.branch 391 (.leaf 0) (.leaf 0)))) (.branch 396 (.branch 394 (.branch 393 (.leaf 0) (.leaf 0)) (.branch 395 (.leaf 0) (.leaf 0))) (.branch 398 (.branch 397 (.leaf 0) (.leaf 0)) (.branch 399 (.leaf 0) (.leaf 0))))) (.branch 407 (.branch 403 (.branch 401 (.leaf 0) (.branch 402 (.leaf 0) (.leaf 0))) (.branch 405 (.branch 404 (.leaf 0) (.leaf 0)) (.branch 406 (.leaf 0) (.leaf 0)))) (.branch 411 (.branch 409 (.branch 408 (.leaf 0) (.leaf 0)) (.branch 410 (.leaf 0) (.leaf 0))) (.branch 413 (.branch 412 (.leaf 0) (.leaf 0)) (.branch 414 (.leaf 0) (.leaf 0))))))) (.branch 445 (.branch 430 (.branch 422 (.branch 418 (.branch 416 (.leaf 0) (.branch 417 (.leaf 0) (.leaf 0))) (.branch 420 (.branch 419 (.leaf 0) (.leaf 0)) (.branch 421 (.leaf 0) (.leaf 0)))) (.branch 426 (.branch 424 (.branch 423 (.leaf 0) (.leaf 0)) (.branch 425 (.leaf 0) (.leaf 0))) (.branch 428 (.branch 427 (.leaf 0) (.leaf 0)) (.branch 429 (.leaf 0) (.leaf 0))))) (.branch 437 (.branch 433 (.branch 431 (.leaf 0) (.branch 432 (.leaf 0) (.leaf 0))) (.branch 435 (.branch 434 (.leaf 0) (.leaf 0)) (.branch 436 (.leaf 0) (.leaf 0)))) (.branch 441 (.branch 439 (.branch 438 (.leaf 0) (.leaf 0)) (.branch 440 (.leaf 0) (.leaf 0))) (.branch 443 (.branch 442 (.leaf 0) (.leaf 0)) (.branch 444 (.leaf 0) (.leaf 0)))))) (.branch 460 (.branch 452 (.branch 448 (.branch 446 (.leaf 0) (.branch 447 (.leaf 0) (.leaf 4083388403051261561560495289181218537472))) (.branch 450 (.branch 449 (.leaf 0) (.leaf 0)) (.branch 451 (.leaf 0) (.leaf 0)))) (.branch 456 (.branch 454 (.branch 453 (.leaf 0) (.leaf 0)) (.branch 455 (.leaf 0) (.leaf 0))) (.branch 458 (.branch 457 (.leaf 0) (.leaf 0)) (.branch 459 (.leaf 0) (.leaf 0))))) (.branch 467 (.branch 463 (.branch 461 (.leaf 0) (.branch 462 (.leaf 0) (.leaf 0))) (.branch 465 (.branch 464 (.leaf 0) (.leaf 0)) (.branch 466 (.leaf 0) (.leaf 0)))) (.branch 471 (.branch 469 (.branch 468 (.leaf 0) (.leaf 0)) (.branch 470 (.leaf 0) (.leaf 0))) (.branch 473 (.branch 472 (.leaf 0) (.leaf 0)) (.branch 474 (.leaf 0) (.leaf 0))))))))))
noncomputable def wfB : RT → Nat → Nat → Bool := fun R => @Lean.RArray.rec Nat (fun _ => Nat → Nat → Bool) (fun _ lo hi => Nat.beq hi (Nat.succ lo)) (fun p _ _ l r lo hi => and (Nat.ble (Nat.succ lo) p) (and (Nat.ble (Nat.succ p) hi) (and (l lo p) (r p hi)))) R
theorem wfB_s (R : RT) : ∀ lo hi : Nat, wfB R lo hi = true → wfR R lo hi := by
  induction R with
  | leaf v => intro lo hi h; exact Nat.eq_of_beq_eq_true h
  | branch p l r ihl ihr =>
    intro lo hi h
    have h : and (Nat.ble (Nat.succ lo) p) (and (Nat.ble (Nat.succ p) hi) (and (wfB l lo p) (wfB r p hi))) = true := h
    simp only [Bool.and_eq_true] at h
    exact ⟨Nat.le_of_ble_eq_true h.1, Nat.le_of_ble_eq_true h.2.1, ihl _ _ h.2.2.1, ihr _ _ h.2.2.2⟩
theorem R0_get : ∀ k, k < 475 → getR R0 k = if shp k = 9 then wrc 0 2 (ln k) else 0 := by decide +kernel
theorem rdc_0 (j : Nat) : rdc 0 j = 0 := by
  apply Nat.eq_of_testBit_eq
  intro b
  rw [rdc_bit]
  simp
theorem R0_s {x : Nat} : rm x R0 C0m := by
  refine ⟨wfB_s _ _ _ (by decide +kernel), fun k hk j => ?_⟩
  rw [R0_get k hk]
  unfold C0m
  by_cases h : shp k = 9
  · rw [if_pos h, rdc_wrc]
    by_cases h2 : j = 2
    · rw [if_pos h2, if_pos ⟨h, h2⟩]
      exact capN_s (rv_nI (Nat.lt_of_le_of_lt (ln_le _) (by decide)))
    · rw [if_neg h2, if_neg (fun q => h2 q.2), rdc_0]
      exact rv_l (by decide) (by decide)
  · rw [if_neg h, if_neg (fun q => h q.1), rdc_0]
    exact rv_l (by decide) (by decide)

def jTab : List (Nat × Nat × Nat × Nat) := [(0, 3, 5, 501), (0, 66, 2, 1115), (0, 76, 4, 1120), (1, 3, 5, 261), (1, 80, 2, 812), (1, 86, 1, 796), (1, 109, 4, 762), (2, 3, 5, 306), (3, 3, 5, 148), (3, 64, 2, 1138), (3, 70, 4, 1229), (4, 3, 5, 416), (4, 47, 2, 917), (4, 53, 1, 918), (4, 139, 4, 956), (5, 3, 5, 365), (5, 115, 1, 1071), (5, 121, 2, 1072), (6, 3, 5, 530), (6, 77, 3, 1168), (6, 100, 1, 1195), (7, 3, 5, 331), (7, 94, 3, 953), (8, 3, 5, 133), (9, 3, 5, 462), (9, 157, 2, 1052), (9, 163, 1, 1056), (10, 1, 5, 125), (10, 357, 2, 822), (10, 362, 1, 823), (11, 1, 5, 1255)]
def jNm : Nat → MethodName := fun j => match j with
  | 1 => Lib.Math.max.name
  | 2 => Lib.Math.min.name
  | 3 => Lib.Math.abs.name
  | 4 => arraycopyName
  | _ => objectInit
def jlk (o idx : Nat) : Option Nat := (jTab.find? (fun q => q.1 == o && q.2.1 == idx)).map (fun q => q.2.2.1)
def jlkB (q : Nat × Nat × Nat × Nat) : Bool := match q with
  | (o, idx, j, p) => gat p (.methodLink (cn o) idx (jNm j))
theorem jTab_ok : jTab.all jlkB = true := by decide +kernel
theorem j0_3 : jlk 0 3 = some 5 := by decide +kernel
theorem j0_66 : jlk 0 66 = some 2 := by decide +kernel
theorem j0_76 : jlk 0 76 = some 4 := by decide +kernel
theorem j1_3 : jlk 1 3 = some 5 := by decide +kernel
theorem j1_80 : jlk 1 80 = some 2 := by decide +kernel
theorem j1_86 : jlk 1 86 = some 1 := by decide +kernel
theorem j1_109 : jlk 1 109 = some 4 := by decide +kernel
theorem j2_3 : jlk 2 3 = some 5 := by decide +kernel
theorem j3_3 : jlk 3 3 = some 5 := by decide +kernel
theorem j3_64 : jlk 3 64 = some 2 := by decide +kernel
theorem j3_70 : jlk 3 70 = some 4 := by decide +kernel
theorem j4_3 : jlk 4 3 = some 5 := by decide +kernel
theorem j4_47 : jlk 4 47 = some 2 := by decide +kernel
theorem j4_53 : jlk 4 53 = some 1 := by decide +kernel
theorem j4_139 : jlk 4 139 = some 4 := by decide +kernel
theorem j5_3 : jlk 5 3 = some 5 := by decide +kernel
theorem j5_115 : jlk 5 115 = some 1 := by decide +kernel
theorem j5_121 : jlk 5 121 = some 2 := by decide +kernel
theorem j6_3 : jlk 6 3 = some 5 := by decide +kernel
theorem j6_77 : jlk 6 77 = some 3 := by decide +kernel
theorem j6_100 : jlk 6 100 = some 1 := by decide +kernel
theorem j7_3 : jlk 7 3 = some 5 := by decide +kernel
theorem j7_94 : jlk 7 94 = some 3 := by decide +kernel
theorem j8_3 : jlk 8 3 = some 5 := by decide +kernel
theorem j9_3 : jlk 9 3 = some 5 := by decide +kernel
theorem j9_157 : jlk 9 157 = some 2 := by decide +kernel
theorem j9_163 : jlk 9 163 = some 1 := by decide +kernel
theorem j10_1 : jlk 10 1 = some 5 := by decide +kernel
theorem j10_357 : jlk 10 357 = some 2 := by decide +kernel
theorem j10_362 : jlk 10 362 = some 1 := by decide +kernel
theorem j11_1 : jlk 11 1 = some 5 := by decide +kernel
theorem jn0_27 : jlk 0 27 = none := by decide +kernel
theorem jn0_40 : jlk 0 40 = none := by decide +kernel
theorem jn0_59 : jlk 0 59 = none := by decide +kernel
theorem jn0_72 : jlk 0 72 = none := by decide +kernel
theorem jn0_82 : jlk 0 82 = none := by decide +kernel
theorem jn0_86 : jlk 0 86 = none := by decide +kernel
theorem jn0_89 : jlk 0 89 = none := by decide +kernel
theorem jn1_33 : jlk 1 33 = none := by decide +kernel
theorem jn1_45 : jlk 1 45 = none := by decide +kernel
theorem jn1_49 : jlk 1 49 = none := by decide +kernel
theorem jn1_66 : jlk 1 66 = none := by decide +kernel
theorem jn1_92 : jlk 1 92 = none := by decide +kernel
theorem jn1_95 : jlk 1 95 = none := by decide +kernel
theorem jn1_99 : jlk 1 99 = none := by decide +kernel
theorem jn1_102 : jlk 1 102 = none := by decide +kernel
theorem jn1_105 : jlk 1 105 = none := by decide +kernel
theorem jn2_11 : jlk 2 11 = none := by decide +kernel
theorem jn2_32 : jlk 2 32 = none := by decide +kernel
theorem jn2_35 : jlk 2 35 = none := by decide +kernel
theorem jn2_39 : jlk 2 39 = none := by decide +kernel
theorem jn2_43 : jlk 2 43 = none := by decide +kernel
theorem jn2_49 : jlk 2 49 = none := by decide +kernel
theorem jn2_53 : jlk 2 53 = none := by decide +kernel
theorem jn2_59 : jlk 2 59 = none := by decide +kernel
theorem jn2_63 : jlk 2 63 = none := by decide +kernel
theorem jn2_66 : jlk 2 66 = none := by decide +kernel
theorem jn2_69 : jlk 2 69 = none := by decide +kernel
theorem jn2_72 : jlk 2 72 = none := by decide +kernel
theorem jn2_76 : jlk 2 76 = none := by decide +kernel
theorem jn2_79 : jlk 2 79 = none := by decide +kernel
theorem jn2_83 : jlk 2 83 = none := by decide +kernel
theorem jn2_86 : jlk 2 86 = none := by decide +kernel
theorem jn2_89 : jlk 2 89 = none := by decide +kernel
theorem jn2_92 : jlk 2 92 = none := by decide +kernel
theorem jn2_95 : jlk 2 95 = none := by decide +kernel
theorem jn2_98 : jlk 2 98 = none := by decide +kernel
theorem jn2_101 : jlk 2 101 = none := by decide +kernel
theorem jn2_104 : jlk 2 104 = none := by decide +kernel
theorem jn3_56 : jlk 3 56 = none := by decide +kernel
theorem jn3_60 : jlk 3 60 = none := by decide +kernel
theorem jn4_60 : jlk 4 60 = none := by decide +kernel
theorem jn4_66 : jlk 4 66 = none := by decide +kernel
theorem jn4_72 : jlk 4 72 = none := by decide +kernel
theorem jn4_75 : jlk 4 75 = none := by decide +kernel
theorem jn4_78 : jlk 4 78 = none := by decide +kernel
theorem jn4_84 : jlk 4 84 = none := by decide +kernel
theorem jn4_90 : jlk 4 90 = none := by decide +kernel
theorem jn4_103 : jlk 4 103 = none := by decide +kernel
theorem jn4_107 : jlk 4 107 = none := by decide +kernel
theorem jn4_116 : jlk 4 116 = none := by decide +kernel
theorem jn4_123 : jlk 4 123 = none := by decide +kernel
theorem jn4_129 : jlk 4 129 = none := by decide +kernel
theorem jn4_132 : jlk 4 132 = none := by decide +kernel
theorem jn4_135 : jlk 4 135 = none := by decide +kernel
theorem jn5_40 : jlk 5 40 = none := by decide +kernel
theorem jn5_55 : jlk 5 55 = none := by decide +kernel
theorem jn5_59 : jlk 5 59 = none := by decide +kernel
theorem jn5_68 : jlk 5 68 = none := by decide +kernel
theorem jn5_72 : jlk 5 72 = none := by decide +kernel
theorem jn5_76 : jlk 5 76 = none := by decide +kernel
theorem jn5_79 : jlk 5 79 = none := by decide +kernel
theorem jn5_82 : jlk 5 82 = none := by decide +kernel
theorem jn5_92 : jlk 5 92 = none := by decide +kernel
theorem jn5_99 : jlk 5 99 = none := by decide +kernel
theorem jn5_105 : jlk 5 105 = none := by decide +kernel
theorem jn5_109 : jlk 5 109 = none := by decide +kernel
theorem jn5_112 : jlk 5 112 = none := by decide +kernel
theorem jn5_124 : jlk 5 124 = none := by decide +kernel
theorem jn5_128 : jlk 5 128 = none := by decide +kernel
theorem jn5_132 : jlk 5 132 = none := by decide +kernel
theorem jn5_136 : jlk 5 136 = none := by decide +kernel
theorem jn5_140 : jlk 5 140 = none := by decide +kernel
theorem jn5_146 : jlk 5 146 = none := by decide +kernel
theorem jn5_161 : jlk 5 161 = none := by decide +kernel
theorem jn6_32 : jlk 6 32 = none := by decide +kernel
theorem jn6_38 : jlk 6 38 = none := by decide +kernel
theorem jn6_48 : jlk 6 48 = none := by decide +kernel
theorem jn6_57 : jlk 6 57 = none := by decide +kernel
theorem jn6_64 : jlk 6 64 = none := by decide +kernel
theorem jn6_73 : jlk 6 73 = none := by decide +kernel
theorem jn6_82 : jlk 6 82 = none := by decide +kernel
theorem jn6_91 : jlk 6 91 = none := by decide +kernel
theorem jn6_94 : jlk 6 94 = none := by decide +kernel
theorem jn6_97 : jlk 6 97 = none := by decide +kernel
theorem jn6_103 : jlk 6 103 = none := by decide +kernel
theorem jn6_106 : jlk 6 106 = none := by decide +kernel
theorem jn7_45 : jlk 7 45 = none := by decide +kernel
theorem jn7_52 : jlk 7 52 = none := by decide +kernel
theorem jn7_58 : jlk 7 58 = none := by decide +kernel
theorem jn7_74 : jlk 7 74 = none := by decide +kernel
theorem jn7_83 : jlk 7 83 = none := by decide +kernel
theorem jn7_87 : jlk 7 87 = none := by decide +kernel
theorem jn8_19 : jlk 8 19 = none := by decide +kernel
theorem jn8_23 : jlk 8 23 = none := by decide +kernel
theorem jn9_37 : jlk 9 37 = none := by decide +kernel
theorem jn9_43 : jlk 9 43 = none := by decide +kernel
theorem jn9_50 : jlk 9 50 = none := by decide +kernel
theorem jn9_66 : jlk 9 66 = none := by decide +kernel
theorem jn9_70 : jlk 9 70 = none := by decide +kernel
theorem jn9_73 : jlk 9 73 = none := by decide +kernel
theorem jn9_79 : jlk 9 79 = none := by decide +kernel
theorem jn9_85 : jlk 9 85 = none := by decide +kernel
theorem jn9_94 : jlk 9 94 = none := by decide +kernel
theorem jn9_98 : jlk 9 98 = none := by decide +kernel
theorem jn9_101 : jlk 9 101 = none := by decide +kernel
theorem jn9_111 : jlk 9 111 = none := by decide +kernel
theorem jn9_121 : jlk 9 121 = none := by decide +kernel
theorem jn9_131 : jlk 9 131 = none := by decide +kernel
theorem jn9_135 : jlk 9 135 = none := by decide +kernel
theorem jn9_139 : jlk 9 139 = none := by decide +kernel
theorem jn9_149 : jlk 9 149 = none := by decide +kernel
theorem jn9_153 : jlk 9 153 = none := by decide +kernel
theorem jn10_9 : jlk 10 9 = none := by decide +kernel
theorem jn10_18 : jlk 10 18 = none := by decide +kernel
theorem jn10_28 : jlk 10 28 = none := by decide +kernel
theorem jn10_35 : jlk 10 35 = none := by decide +kernel
theorem jn10_44 : jlk 10 44 = none := by decide +kernel
theorem jn10_53 : jlk 10 53 = none := by decide +kernel
theorem jn10_60 : jlk 10 60 = none := by decide +kernel
theorem jn10_69 : jlk 10 69 = none := by decide +kernel
theorem jn10_76 : jlk 10 76 = none := by decide +kernel
theorem jn10_85 : jlk 10 85 = none := by decide +kernel
theorem jn10_92 : jlk 10 92 = none := by decide +kernel
theorem jn10_100 : jlk 10 100 = none := by decide +kernel
theorem jn10_104 : jlk 10 104 = none := by decide +kernel
theorem jn10_110 : jlk 10 110 = none := by decide +kernel
theorem jn10_125 : jlk 10 125 = none := by decide +kernel
theorem jn10_129 : jlk 10 129 = none := by decide +kernel
theorem jn10_133 : jlk 10 133 = none := by decide +kernel
theorem jn10_140 : jlk 10 140 = none := by decide +kernel
theorem jn10_144 : jlk 10 144 = none := by decide +kernel
theorem jn10_151 : jlk 10 151 = none := by decide +kernel
theorem jn10_155 : jlk 10 155 = none := by decide +kernel
theorem jn10_161 : jlk 10 161 = none := by decide +kernel
theorem jn10_169 : jlk 10 169 = none := by decide +kernel
theorem jn10_178 : jlk 10 178 = none := by decide +kernel
theorem jn10_187 : jlk 10 187 = none := by decide +kernel
theorem jn10_193 : jlk 10 193 = none := by decide +kernel
theorem jn10_215 : jlk 10 215 = none := by decide +kernel
theorem jn10_218 : jlk 10 218 = none := by decide +kernel
theorem jn10_221 : jlk 10 221 = none := by decide +kernel
theorem jn10_224 : jlk 10 224 = none := by decide +kernel
theorem jn10_227 : jlk 10 227 = none := by decide +kernel
theorem jn10_236 : jlk 10 236 = none := by decide +kernel
theorem jn10_242 : jlk 10 242 = none := by decide +kernel
theorem jn10_245 : jlk 10 245 = none := by decide +kernel
theorem jn10_248 : jlk 10 248 = none := by decide +kernel
theorem jn10_257 : jlk 10 257 = none := by decide +kernel
theorem jn10_261 : jlk 10 261 = none := by decide +kernel
theorem jn10_265 : jlk 10 265 = none := by decide +kernel
theorem jn10_270 : jlk 10 270 = none := by decide +kernel
theorem jn10_276 : jlk 10 276 = none := by decide +kernel
theorem jn10_279 : jlk 10 279 = none := by decide +kernel
theorem jn10_282 : jlk 10 282 = none := by decide +kernel
theorem jn10_292 : jlk 10 292 = none := by decide +kernel
theorem jn10_296 : jlk 10 296 = none := by decide +kernel
theorem jn10_299 : jlk 10 299 = none := by decide +kernel
theorem jn10_309 : jlk 10 309 = none := by decide +kernel
theorem jn10_312 : jlk 10 312 = none := by decide +kernel
theorem jn10_315 : jlk 10 315 = none := by decide +kernel
theorem jn10_325 : jlk 10 325 = none := by decide +kernel
theorem jn10_330 : jlk 10 330 = none := by decide +kernel
theorem jn10_332 : jlk 10 332 = none := by decide +kernel
theorem jn10_335 : jlk 10 335 = none := by decide +kernel
theorem jn10_339 : jlk 10 339 = none := by decide +kernel
theorem jn10_342 : jlk 10 342 = none := by decide +kernel
theorem jn10_348 : jlk 10 348 = none := by decide +kernel
theorem jn10_351 : jlk 10 351 = none := by decide +kernel
theorem jn11_203 : jlk 11 203 = none := by decide +kernel
theorem jn11_216 : jlk 11 216 = none := by decide +kernel
theorem jn11_220 : jlk 11 220 = none := by decide +kernel
theorem jn11_227 : jlk 11 227 = none := by decide +kernel
theorem jn11_230 : jlk 11 230 = none := by decide +kernel
theorem jn11_240 : jlk 11 240 = none := by decide +kernel
theorem jn11_253 : jlk 11 253 = none := by decide +kernel
theorem jn11_266 : jlk 11 266 = none := by decide +kernel
theorem jn11_270 : jlk 11 270 = none := by decide +kernel
theorem jn11_274 : jlk 11 274 = none := by decide +kernel
theorem jn11_281 : jlk 11 281 = none := by decide +kernel
theorem jn11_284 : jlk 11 284 = none := by decide +kernel
theorem jn11_287 : jlk 11 287 = none := by decide +kernel
theorem jn11_290 : jlk 11 290 = none := by decide +kernel
theorem jn11_293 : jlk 11 293 = none := by decide +kernel
theorem jn11_296 : jlk 11 296 = none := by decide +kernel
theorem jn11_299 : jlk 11 299 = none := by decide +kernel
theorem jn11_302 : jlk 11 302 = none := by decide +kernel
theorem jn11_305 : jlk 11 305 = none := by decide +kernel
theorem jn11_313 : jlk 11 313 = none := by decide +kernel
theorem jn11_316 : jlk 11 316 = none := by decide +kernel
theorem jn11_319 : jlk 11 319 = none := by decide +kernel
theorem jn11_322 : jlk 11 322 = none := by decide +kernel
theorem jn11_325 : jlk 11 325 = none := by decide +kernel
theorem jn11_328 : jlk 11 328 = none := by decide +kernel
theorem jn11_334 : jlk 11 334 = none := by decide +kernel
theorem jn11_337 : jlk 11 337 = none := by decide +kernel
theorem jn11_343 : jlk 11 343 = none := by decide +kernel
theorem jn11_348 : jlk 11 348 = none := by decide +kernel
theorem jn11_357 : jlk 11 357 = none := by decide +kernel
theorem jn11_361 : jlk 11 361 = none := by decide +kernel
theorem jn11_364 : jlk 11 364 = none := by decide +kernel
theorem jn11_368 : jlk 11 368 = none := by decide +kernel
theorem jn11_371 : jlk 11 371 = none := by decide +kernel
theorem jn11_375 : jlk 11 375 = none := by decide +kernel
theorem jn11_378 : jlk 11 378 = none := by decide +kernel
theorem jn11_381 : jlk 11 381 = none := by decide +kernel
theorem jn11_387 : jlk 11 387 = none := by decide +kernel
theorem jn11_390 : jlk 11 390 = none := by decide +kernel
theorem jn11_394 : jlk 11 394 = none := by decide +kernel
theorem jn11_404 : jlk 11 404 = none := by decide +kernel
theorem jn11_408 : jlk 11 408 = none := by decide +kernel
theorem jn11_411 : jlk 11 411 = none := by decide +kernel
theorem jn11_414 : jlk 11 414 = none := by decide +kernel
theorem jn11_419 : jlk 11 419 = none := by decide +kernel
theorem jn11_423 : jlk 11 423 = none := by decide +kernel
theorem jn11_426 : jlk 11 426 = none := by decide +kernel
theorem jn11_429 : jlk 11 429 = none := by decide +kernel
theorem jn11_432 : jlk 11 432 = none := by decide +kernel
theorem jn11_436 : jlk 11 436 = none := by decide +kernel
theorem jn11_440 : jlk 11 440 = none := by decide +kernel
theorem jn11_443 : jlk 11 443 = none := by decide +kernel
theorem jn11_447 : jlk 11 447 = none := by decide +kernel
theorem jn11_456 : jlk 11 456 = none := by decide +kernel
theorem jn11_460 : jlk 11 460 = none := by decide +kernel
theorem jn11_463 : jlk 11 463 = none := by decide +kernel
theorem jn11_466 : jlk 11 466 = none := by decide +kernel
theorem jn11_470 : jlk 11 470 = none := by decide +kernel
theorem jn11_479 : jlk 11 479 = none := by decide +kernel
theorem jn11_482 : jlk 11 482 = none := by decide +kernel
theorem jn11_485 : jlk 11 485 = none := by decide +kernel
theorem jn11_488 : jlk 11 488 = none := by decide +kernel
theorem jn11_491 : jlk 11 491 = none := by decide +kernel
theorem jn11_496 : jlk 11 496 = none := by decide +kernel
theorem jn11_499 : jlk 11 499 = none := by decide +kernel
theorem jn11_504 : jlk 11 504 = none := by decide +kernel
theorem jn11_507 : jlk 11 507 = none := by decide +kernel
theorem jn11_516 : jlk 11 516 = none := by decide +kernel
theorem jn11_534 : jlk 11 534 = none := by decide +kernel
theorem jn11_537 : jlk 11 537 = none := by decide +kernel
theorem jn99_9 : jlk 99 9 = none := by decide +kernel
theorem jn99_12 : jlk 99 12 = none := by decide +kernel
theorem jn99_13 : jlk 99 13 = none := by decide +kernel
theorem jn99_17 : jlk 99 17 = none := by decide +kernel
theorem jn99_18 : jlk 99 18 = none := by decide +kernel
theorem jn99_22 : jlk 99 22 = none := by decide +kernel
theorem jn99_23 : jlk 99 23 = none := by decide +kernel
theorem jn99_27 : jlk 99 27 = none := by decide +kernel
theorem jn99_28 : jlk 99 28 = none := by decide +kernel
theorem jn99_31 : jlk 99 31 = none := by decide +kernel
theorem jn99_32 : jlk 99 32 = none := by decide +kernel
theorem jn99_36 : jlk 99 36 = none := by decide +kernel
theorem jn99_37 : jlk 99 37 = none := by decide +kernel
theorem jn99_41 : jlk 99 41 = none := by decide +kernel
theorem jn99_42 : jlk 99 42 = none := by decide +kernel
theorem jn99_46 : jlk 99 46 = none := by decide +kernel
theorem jn99_47 : jlk 99 47 = none := by decide +kernel
theorem jn99_50 : jlk 99 50 = none := by decide +kernel
theorem jn99_51 : jlk 99 51 = none := by decide +kernel
theorem jn99_55 : jlk 99 55 = none := by decide +kernel
theorem jn99_56 : jlk 99 56 = none := by decide +kernel
theorem jn99_59 : jlk 99 59 = none := by decide +kernel
theorem jn99_60 : jlk 99 60 = none := by decide +kernel
theorem jn99_63 : jlk 99 63 = none := by decide +kernel
theorem jn99_64 : jlk 99 64 = none := by decide +kernel
theorem jn99_67 : jlk 99 67 = none := by decide +kernel
theorem jn99_68 : jlk 99 68 = none := by decide +kernel
theorem jn99_72 : jlk 99 72 = none := by decide +kernel
theorem jn99_73 : jlk 99 73 = none := by decide +kernel
theorem jn99_76 : jlk 99 76 = none := by decide +kernel
theorem jn99_77 : jlk 99 77 = none := by decide +kernel
theorem jn99_80 : jlk 99 80 = none := by decide +kernel
theorem jn99_81 : jlk 99 81 = none := by decide +kernel
theorem jn99_84 : jlk 99 84 = none := by decide +kernel
theorem jn99_85 : jlk 99 85 = none := by decide +kernel
theorem jn99_88 : jlk 99 88 = none := by decide +kernel
theorem jn99_89 : jlk 99 89 = none := by decide +kernel
theorem jn99_93 : jlk 99 93 = none := by decide +kernel
theorem jn99_94 : jlk 99 94 = none := by decide +kernel
theorem jn99_97 : jlk 99 97 = none := by decide +kernel
theorem jn99_98 : jlk 99 98 = none := by decide +kernel
theorem jn99_101 : jlk 99 101 = none := by decide +kernel
theorem jn99_102 : jlk 99 102 = none := by decide +kernel
theorem jn99_105 : jlk 99 105 = none := by decide +kernel
theorem jn99_106 : jlk 99 106 = none := by decide +kernel
theorem jn99_109 : jlk 99 109 = none := by decide +kernel
theorem jn99_110 : jlk 99 110 = none := by decide +kernel
theorem jn99_114 : jlk 99 114 = none := by decide +kernel
theorem jn99_115 : jlk 99 115 = none := by decide +kernel
theorem jn99_119 : jlk 99 119 = none := by decide +kernel
theorem jn99_120 : jlk 99 120 = none := by decide +kernel
theorem jn99_123 : jlk 99 123 = none := by decide +kernel
theorem jn99_124 : jlk 99 124 = none := by decide +kernel
theorem jn99_127 : jlk 99 127 = none := by decide +kernel
theorem jn99_128 : jlk 99 128 = none := by decide +kernel
theorem jn99_131 : jlk 99 131 = none := by decide +kernel
theorem jn99_132 : jlk 99 132 = none := by decide +kernel
theorem jn99_135 : jlk 99 135 = none := by decide +kernel
theorem jn99_136 : jlk 99 136 = none := by decide +kernel
theorem jn99_140 : jlk 99 140 = none := by decide +kernel
theorem jn99_141 : jlk 99 141 = none := by decide +kernel
theorem jn99_144 : jlk 99 144 = none := by decide +kernel
theorem jn99_145 : jlk 99 145 = none := by decide +kernel
theorem jn99_148 : jlk 99 148 = none := by decide +kernel
theorem jw_max_s : Cond.static Lib.Math.max.name ∈ gtbl := gat_mem (i := 797) (by decide +kernel)
theorem jw_max_c : Cond.code Lib.Math.max.name Lib.Math.max.code 2 (some .int) ∈ gtbl := gat_mem (i := 798) (by decide +kernel)
theorem jw_min_s : Cond.static Lib.Math.min.name ∈ gtbl := gat_mem (i := 813) (by decide +kernel)
theorem jw_min_c : Cond.code Lib.Math.min.name Lib.Math.min.code 2 (some .int) ∈ gtbl := gat_mem (i := 814) (by decide +kernel)
theorem jw_abs_s : Cond.static Lib.Math.abs.name ∈ gtbl := gat_mem (i := 954) (by decide +kernel)
theorem jw_abs_c : Cond.code Lib.Math.abs.name Lib.Math.abs.code 1 (some .int) ∈ gtbl := gat_mem (i := 955) (by decide +kernel)
theorem jw_math_i : Cond.initialized "java/lang/Math" ∈ gtbl := gat_mem (i := 118) (by decide +kernel)
theorem jw_sys_i : Cond.initialized "java/lang/System" ∈ gtbl := gat_mem (i := 117) (by decide +kernel)
theorem jw_ac_s : Cond.static arraycopyName ∈ gtbl := gat_mem (i := 763) (by decide +kernel)
theorem jw_ac_n : Cond.native arraycopyName ∈ gtbl := gat_mem (i := 764) (by decide +kernel)
theorem jw_oi_i : Cond.instanceMethod objectInit ∈ gtbl := gat_mem (i := 126) (by decide +kernel)
theorem jw_oi_c : Cond.code objectInit ⟨#[0xb1]⟩ 1 none ∈ gtbl := gat_mem (i := 127) (by decide +kernel)
def cTab : List (Nat × Nat × Int32 × Nat) := [(10, 168, -1000000000, 769), (4, 112, 2147483647, 940), (9, 117, 2147483647, 1033), (0, 39, 268435455, 1110), (50, 265, 1431655765, 1176), (50, 266, 858993459, 1177), (50, 267, 252645135, 1178), (10, 338, 65535, 1212), (11, 386, -1000000000, 1670), (11, 422, 1000000000, 1758), (11, 515, 65536, 1898)]
def c2Tab : List (Nat × Nat × Int64 × Nat) := [(10, 268, -1, 1008), (10, 274, -2, 1013), (7, 90, 19, 1047), (7, 92, 9, 1048), (11, 207, -9, 1527), (11, 209, 9, 1528), (11, 223, 999, 1533), (11, 225, 99, 1550), (11, 211, 7, 1554), (11, 346, 200, 1575), (11, 277, 48, 1612), (11, 279, 57, 1613), (11, 398, 98, 1726), (11, 400, -1, 1727), (11, 402, 2, 1728), (11, 417, 6, 1749), (11, 384, 19, 1786), (11, 451, -2, 1803), (11, 494, 8, 1864), (11, 502, 255, 1880), (11, 511, 65535, 1892), (11, 513, 60, 1897)]
def clk (o idx : Nat) : Option Int32 := (cTab.find? (fun q => q.1 == o && q.2.1 == idx)).map (fun q => q.2.2.1)
def c2lk (o idx : Nat) : Option Int64 := (c2Tab.find? (fun q => q.1 == o && q.2.1 == idx)).map (fun q => q.2.2.1)
theorem cTab_ok : cTab.all (fun q => gat q.2.2.2 (.constant (cn q.1) q.2.1 q.2.2.1)) = true := by decide +kernel
theorem c2Tab_ok : c2Tab.all (fun q => gat q.2.2.2 (.constantLong (cn q.1) q.2.1 q.2.2.1)) = true := by decide +kernel
theorem c10_168 : clk 10 168 = some (-1000000000) := by decide +kernel
theorem c4_112 : clk 4 112 = some (2147483647) := by decide +kernel
theorem c9_117 : clk 9 117 = some (2147483647) := by decide +kernel
theorem c0_39 : clk 0 39 = some (268435455) := by decide +kernel
theorem c50_265 : clk 50 265 = some (1431655765) := by decide +kernel
theorem c50_266 : clk 50 266 = some (858993459) := by decide +kernel
theorem c50_267 : clk 50 267 = some (252645135) := by decide +kernel
theorem c10_338 : clk 10 338 = some (65535) := by decide +kernel
theorem c11_386 : clk 11 386 = some (-1000000000) := by decide +kernel
theorem c11_422 : clk 11 422 = some (1000000000) := by decide +kernel
theorem c11_515 : clk 11 515 = some (65536) := by decide +kernel
theorem q10_268 : c2lk 10 268 = some (-1) := by decide +kernel
theorem q10_274 : c2lk 10 274 = some (-2) := by decide +kernel
theorem q7_90 : c2lk 7 90 = some (19) := by decide +kernel
theorem q7_92 : c2lk 7 92 = some (9) := by decide +kernel
theorem q11_207 : c2lk 11 207 = some (-9) := by decide +kernel
theorem q11_209 : c2lk 11 209 = some (9) := by decide +kernel
theorem q11_223 : c2lk 11 223 = some (999) := by decide +kernel
theorem q11_225 : c2lk 11 225 = some (99) := by decide +kernel
theorem q11_211 : c2lk 11 211 = some (7) := by decide +kernel
theorem q11_346 : c2lk 11 346 = some (200) := by decide +kernel
theorem q11_277 : c2lk 11 277 = some (48) := by decide +kernel
theorem q11_279 : c2lk 11 279 = some (57) := by decide +kernel
theorem q11_398 : c2lk 11 398 = some (98) := by decide +kernel
theorem q11_400 : c2lk 11 400 = some (-1) := by decide +kernel
theorem q11_402 : c2lk 11 402 = some (2) := by decide +kernel
theorem q11_417 : c2lk 11 417 = some (6) := by decide +kernel
theorem q11_384 : c2lk 11 384 = some (19) := by decide +kernel
theorem q11_451 : c2lk 11 451 = some (-2) := by decide +kernel
theorem q11_494 : c2lk 11 494 = some (8) := by decide +kernel
theorem q11_502 : c2lk 11 502 = some (255) := by decide +kernel
theorem q11_511 : c2lk 11 511 = some (65535) := by decide +kernel
theorem q11_513 : c2lk 11 513 = some (60) := by decide +kernel
def nTab : List (Nat × Nat × Nat × Nat × Nat × Nat) := [(99, 7, 10, 120, 121, 105), (10, 7, 8, 128, 129, 106), (10, 16, 3, 143, 144, 107), (10, 26, 1, 256, 257, 108), (10, 33, 2, 301, 302, 109), (2, 9, 1, 307, 257, 108), (10, 42, 7, 326, 327, 110), (10, 51, 5, 360, 361, 111), (5, 9, 7, 366, 327, 110), (10, 58, 4, 411, 412, 112), (10, 67, 9, 457, 458, 113), (10, 74, 0, 496, 497, 114), (10, 83, 6, 525, 526, 115), (99, 10, 11, 1250, 1251, 116)]
def nlk (o idx : Nat) : Option Nat := (nTab.find? (fun q => q.1 == o && q.2.1 == idx)).map (fun q => q.2.2.1)
def nlkB (q : Nat × Nat × Nat × Nat × Nat × Nat) : Bool := match q with
  | (o, idx, ci, p1, p2, p3) => gat p1 (.classLink (cn o) idx (cn ci)) && gat p2 (.instantiable (cn ci) (NF ci)) && gat p3 (.initialized (cn ci)) && decide (ci < 12)
theorem nTab_ok : nTab.all nlkB = true := by decide +kernel
theorem n99_7 : nlk 99 7 = some 10 := by decide +kernel
theorem n10_7 : nlk 10 7 = some 8 := by decide +kernel
theorem n10_16 : nlk 10 16 = some 3 := by decide +kernel
theorem n10_26 : nlk 10 26 = some 1 := by decide +kernel
theorem n10_33 : nlk 10 33 = some 2 := by decide +kernel
theorem n2_9 : nlk 2 9 = some 1 := by decide +kernel
theorem n10_42 : nlk 10 42 = some 7 := by decide +kernel
theorem n10_51 : nlk 10 51 = some 5 := by decide +kernel
theorem n5_9 : nlk 5 9 = some 7 := by decide +kernel
theorem n10_58 : nlk 10 58 = some 4 := by decide +kernel
theorem n10_67 : nlk 10 67 = some 9 := by decide +kernel
theorem n10_74 : nlk 10 74 = some 0 := by decide +kernel
theorem n10_83 : nlk 10 83 = some 6 := by decide +kernel
theorem n99_10 : nlk 99 10 = some 11 := by decide +kernel
-- other class links: classLink "BellRibbons$Payments" 21 "[[I" ; classLink "BellRibbons$Leveller" 21 "[[I" ; classLink "BellRibbons$Debts" 9 "[[I"
theorem jw_arr_int : Cond.arrayClass .int ∈ gtbl := gat_mem (i := 142) (by decide +kernel)
theorem jw_arr_boolean : Cond.arrayClass .boolean ∈ gtbl := gat_mem (i := 255) (by decide +kernel)
theorem jw_arr_byte : Cond.arrayClass .byte ∈ gtbl := gat_mem (i := 1512) (by decide +kernel)
theorem jw_arr_long : Cond.arrayClass .long ∈ gtbl := gat_mem (i := 1057) (by decide +kernel)
theorem vwCl_at : ∀ ci, ci < 12 → vwCl[ci]? = some (cn ci, TT ci, NF ci) := fun ci h => by
  match ci, h with
  | 0, _ => rfl
  | 1, _ => rfl
  | 2, _ => rfl
  | 3, _ => rfl
  | 4, _ => rfl
  | 5, _ => rfl
  | 6, _ => rfl
  | 7, _ => rfl
  | 8, _ => rfl
  | 9, _ => rfl
  | 10, _ => rfl
  | 11, _ => rfl
  | k + 12, h => exact absurd h (by omega)
theorem inX0 : ∀ w ∈ u_ws RX0 TX0 6, w ∈ gtbl := by
  have h : (List.range 6).all (fun j => gat (([512, 514, 516, 518, 520, 522] : List Nat).getD j 0) (u_lay RX0 TX0 j)) = true := by decide +kernel
  intro w hw
  obtain ⟨j, hj, rfl⟩ := List.mem_map.mp hw
  exact gat_mem (List.all_eq_true.mp h j hj)
theorem inX1 : ∀ w ∈ u_ws RX1 TX1 12, w ∈ gtbl := by
  have h : (List.range 12).all (fun j => gat (([276, 278, 280, 282, 284, 286, 288, 290, 292, 294, 296, 298] : List Nat).getD j 0) (u_lay RX1 TX1 j)) = true := by decide +kernel
  intro w hw
  obtain ⟨j, hj, rfl⟩ := List.mem_map.mp hw
  exact gat_mem (List.all_eq_true.mp h j hj)
theorem inX2 : ∀ w ∈ u_ws RX2 TX2 5, w ∈ gtbl := by
  have h : (List.range 5).all (fun j => gat (([315, 317, 319, 321, 323] : List Nat).getD j 0) (u_lay RX2 TX2 j)) = true := by decide +kernel
  intro w hw
  obtain ⟨j, hj, rfl⟩ := List.mem_map.mp hw
  exact gat_mem (List.all_eq_true.mp h j hj)
theorem inX3 : ∀ w ∈ u_ws RX3 TX3 16, w ∈ gtbl := by
  have h : (List.range 16).all (fun j => gat (([222, 224, 226, 228, 230, 232, 234, 236, 238, 240, 242, 244, 246, 248, 250, 252] : List Nat).getD j 0) (u_lay RX3 TX3 j)) = true := by decide +kernel
  intro w hw
  obtain ⟨j, hj, rfl⟩ := List.mem_map.mp hw
  exact gat_mem (List.all_eq_true.mp h j hj)
theorem inX4 : ∀ w ∈ u_ws RX4 TX4 12, w ∈ gtbl := by
  have h : (List.range 12).all (fun j => gat (([432, 434, 436, 438, 440, 442, 444, 446, 448, 450, 452, 454] : List Nat).getD j 0) (u_lay RX4 TX4 j)) = true := by decide +kernel
  intro w hw
  obtain ⟨j, hj, rfl⟩ := List.mem_map.mp hw
  exact gat_mem (List.all_eq_true.mp h j hj)
theorem inX5 : ∀ w ∈ u_ws RX5 TX5 12, w ∈ gtbl := by
  have h : (List.range 12).all (fun j => gat (([386, 388, 390, 392, 394, 396, 398, 400, 402, 404, 406, 408] : List Nat).getD j 0) (u_lay RX5 TX5 j)) = true := by decide +kernel
  intro w hw
  obtain ⟨j, hj, rfl⟩ := List.mem_map.mp hw
  exact gat_mem (List.all_eq_true.mp h j hj)
theorem inX6 : ∀ w ∈ u_ws RX6 TX6 8, w ∈ gtbl := by
  have h : (List.range 8).all (fun j => gat (([541, 543, 545, 547, 549, 551, 553, 555] : List Nat).getD j 0) (u_lay RX6 TX6 j)) = true := by decide +kernel
  intro w hw
  obtain ⟨j, hj, rfl⟩ := List.mem_map.mp hw
  exact gat_mem (List.all_eq_true.mp h j hj)
theorem inX7 : ∀ w ∈ u_ws RX7 TX7 6, w ∈ gtbl := by
  have h : (List.range 6).all (fun j => gat (([347, 349, 351, 353, 355, 357] : List Nat).getD j 0) (u_lay RX7 TX7 j)) = true := by decide +kernel
  intro w hw
  obtain ⟨j, hj, rfl⟩ := List.mem_map.mp hw
  exact gat_mem (List.all_eq_true.mp h j hj)
theorem inX8 : ∀ w ∈ u_ws RX8 TX8 2, w ∈ gtbl := by
  have h : (List.range 2).all (fun j => gat (([137, 139] : List Nat).getD j 0) (u_lay RX8 TX8 j)) = true := by decide +kernel
  intro w hw
  obtain ⟨j, hj, rfl⟩ := List.mem_map.mp hw
  exact gat_mem (List.all_eq_true.mp h j hj)
theorem inX9 : ∀ w ∈ u_ws RX9 TX9 10, w ∈ gtbl := by
  have h : (List.range 10).all (fun j => gat (([475, 477, 479, 481, 483, 485, 487, 489, 491, 493] : List Nat).getD j 0) (u_lay RX9 TX9 j)) = true := by decide +kernel
  intro w hw
  obtain ⟨j, hj, rfl⟩ := List.mem_map.mp hw
  exact gat_mem (List.all_eq_true.mp h j hj)
theorem inX10 : ∀ w ∈ u_ws RX10 TX10 12, w ∈ gtbl := by
  have h : (List.range 12).all (fun j => gat (([574, 576, 578, 580, 582, 584, 586, 588, 590, 592, 594, 596] : List Nat).getD j 0) (u_lay RX10 TX10 j)) = true := by decide +kernel
  intro w hw
  obtain ⟨j, hj, rfl⟩ := List.mem_map.mp hw
  exact gat_mem (List.all_eq_true.mp h j hj)
theorem inX11 : ∀ w ∈ u_ws RX11 TX11 85, w ∈ gtbl := by
  have h : (List.range 85).all (fun j => gat (([1341, 1343, 1345, 1347, 1349, 1351, 1353, 1355, 1357, 1359, 1361, 1363, 1365, 1367, 1369, 1371, 1373, 1375, 1377, 1379, 1381, 1383, 1385, 1387, 1389, 1391, 1393, 1395, 1397, 1399, 1401, 1403, 1405, 1407, 1409, 1411, 1413, 1415, 1417, 1419, 1421, 1423, 1425, 1427, 1429, 1431, 1433, 1435, 1437, 1439, 1441, 1443, 1445, 1447, 1449, 1451, 1453, 1455, 1457, 1459, 1461, 1463, 1465, 1467, 1469, 1471, 1473, 1475, 1477, 1479, 1481, 1483, 1485, 1487, 1489, 1491, 1493, 1495, 1497, 1499, 1501, 1503, 1505, 1507, 1509] : List Nat).getD j 0) (u_lay RX11 TX11 j)) = true := by decide +kernel
  intro w hw
  obtain ⟨j, hj, rfl⟩ := List.mem_map.mp hw
  exact gat_mem (List.all_eq_true.mp h j hj)
theorem inTT : ∀ ci, ci < 12 → ∀ w ∈ u_ws (cn ci) (TT ci) (NF ci), w ∈ gtbl := fun ci h => by
  match ci, h with
  | 0, _ => exact inX0
  | 1, _ => exact inX1
  | 2, _ => exact inX2
  | 3, _ => exact inX3
  | 4, _ => exact inX4
  | 5, _ => exact inX5
  | 6, _ => exact inX6
  | 7, _ => exact inX7
  | 8, _ => exact inX8
  | 9, _ => exact inX9
  | 10, _ => exact inX10
  | 11, _ => exact inX11
  | k + 12, h => exact absurd h (by omega)
theorem nmTT : ∀ ci, ci < 12 → ∀ a, a < NF ci → ∀ b, b < NF ci → a ≠ b → (TT ci a).2.1 ≠ (TT ci b).2.1 := fun ci h => by
  match ci, h with
  | 0, _ => exact nmX0
  | 1, _ => exact nmX1
  | 2, _ => exact nmX2
  | 3, _ => exact nmX3
  | 4, _ => exact nmX4
  | 5, _ => exact nmX5
  | 6, _ => exact nmX6
  | 7, _ => exact nmX7
  | 8, _ => exact nmX8
  | 9, _ => exact nmX9
  | 10, _ => exact nmX10
  | 11, _ => exact nmX11
  | k + 12, h => exact absurd h (by omega)
theorem tyTT : ∀ ci, ci < 12 → ∀ k, k < NF ci → parseFieldDescriptor (TT ci k).2.2.1 = some (tyT ci k) := fun ci h => by
  match ci, h with
  | 0, _ => exact tyX0_ok
  | 1, _ => exact tyX1_ok
  | 2, _ => exact tyX2_ok
  | 3, _ => exact tyX3_ok
  | 4, _ => exact tyX4_ok
  | 5, _ => exact tyX5_ok
  | 6, _ => exact tyX6_ok
  | 7, _ => exact tyX7_ok
  | 8, _ => exact tyX8_ok
  | 9, _ => exact tyX9_ok
  | 10, _ => exact tyX10_ok
  | 11, _ => exact tyX11_ok
  | k + 12, h => exact absurd h (by omega)

theorem xL_law_0 : dcd mL_law 0 = some (.new 7, 3, 0, 0) := by decide +kernel
theorem xL_law_3 : dcd mL_law 3 = some (.dup, 1, 0, 0) := by decide +kernel
theorem xL_law_4 : dcd mL_law 4 = some (.invokespecial 9, 3, 0, 0) := by decide +kernel
theorem xL_law_7 : dcd mL_law 7 = some (.astore 1, 1, 0, 0) := by decide +kernel
theorem xL_law_8 : dcd mL_law 8 = some (.new 10, 3, 0, 0) := by decide +kernel
theorem xL_law_11 : dcd mL_law 11 = some (.dup, 1, 0, 0) := by decide +kernel
theorem xL_law_12 : dcd mL_law 12 = some (.invokespecial 12, 3, 0, 0) := by decide +kernel
theorem xL_law_15 : dcd mL_law 15 = some (.astore 2, 1, 0, 0) := by decide +kernel
theorem xL_law_16 : dcd mL_law 16 = some (.iconst 0, 1, 0, 0) := by decide +kernel
theorem xL_law_17 : dcd mL_law 17 = some (.istore 3, 1, 0, 0) := by decide +kernel
theorem xL_law_18 : dcd mL_law 18 = some (.iload 3, 1, 0, 0) := by decide +kernel
theorem xL_law_19 : dcd mL_law 19 = some (.aload 0, 1, 0, 0) := by decide +kernel
theorem xL_law_20 : dcd mL_law 20 = some (.arraylength, 1, 0, 0) := by decide +kernel
theorem xL_law_21 : dcd mL_law 21 = some (.iconst 0, 2, 0, 6) := by decide +kernel
theorem xL_law_23 : dcd mL_law 23 = some (.isub, 1, 0, 0) := by decide +kernel
theorem xL_law_24 : dcd mL_law 24 = some (.if_icmp .gt 0, 3, 1204, 0) := by decide +kernel
theorem xL_law_27 : dcd mL_law 27 = some (.aload 0, 1, 0, 0) := by decide +kernel
theorem xL_law_28 : dcd mL_law 28 = some (.iload 3, 1, 0, 0) := by decide +kernel
theorem xL_law_29 : dcd mL_law 29 = some (.iaload, 1, 0, 0) := by decide +kernel
theorem xL_law_30 : dcd mL_law 30 = some (.iconst 0, 2, 0, 31) := by decide +kernel
theorem xL_law_32 : dcd mL_law 32 = some (.iand, 1, 0, 0) := by decide +kernel
theorem xL_law_33 : dcd mL_law 33 = some (.tableswitch 1165 0 30 #[139, 172, 205, 254, 303, 356, 419, 442, 505, 528, 561, 594, 617, 660, 683, 736, 769, 792, 806, 839, 892, 925, 948, 961, 1004, 1047, 1070, 1093, 1106, 1119, 1142], 139, 0, 0) := by decide +kernel
theorem xL_law_172 : dcd mL_law 172 = some (.aload 1, 1, 0, 0) := by decide +kernel
theorem xL_law_173 : dcd mL_law 173 = some (.aload 0, 1, 0, 0) := by decide +kernel
theorem xL_law_174 : dcd mL_law 174 = some (.iload 3, 1, 0, 0) := by decide +kernel
theorem xL_law_175 : dcd mL_law 175 = some (.iconst 0, 1, 0, 1) := by decide +kernel
theorem xL_law_176 : dcd mL_law 176 = some (.iadd, 1, 0, 0) := by decide +kernel
theorem xL_law_177 : dcd mL_law 177 = some (.iaload, 1, 0, 0) := by decide +kernel
theorem xL_law_178 : dcd mL_law 178 = some (.aload 0, 1, 0, 0) := by decide +kernel
theorem xL_law_179 : dcd mL_law 179 = some (.iload 3, 1, 0, 0) := by decide +kernel
theorem xL_law_180 : dcd mL_law 180 = some (.iconst 0, 1, 0, 2) := by decide +kernel
theorem xL_law_181 : dcd mL_law 181 = some (.iadd, 1, 0, 0) := by decide +kernel
theorem xL_law_182 : dcd mL_law 182 = some (.iaload, 1, 0, 0) := by decide +kernel
theorem xL_law_183 : dcd mL_law 183 = some (.invokevirtual 13, 3, 0, 0) := by decide +kernel
theorem xL_law_186 : dcd mL_law 186 = some (.aload 2, 1, 0, 0) := by decide +kernel
theorem xL_law_187 : dcd mL_law 187 = some (.aload 0, 1, 0, 0) := by decide +kernel
theorem xL_law_188 : dcd mL_law 188 = some (.iload 3, 1, 0, 0) := by decide +kernel
theorem xL_law_189 : dcd mL_law 189 = some (.iconst 0, 1, 0, 1) := by decide +kernel
theorem xL_law_190 : dcd mL_law 190 = some (.iadd, 1, 0, 0) := by decide +kernel
theorem xL_law_191 : dcd mL_law 191 = some (.iaload, 1, 0, 0) := by decide +kernel
theorem xL_law_192 : dcd mL_law 192 = some (.aload 0, 1, 0, 0) := by decide +kernel
theorem xL_law_193 : dcd mL_law 193 = some (.iload 3, 1, 0, 0) := by decide +kernel
theorem xL_law_194 : dcd mL_law 194 = some (.iconst 0, 1, 0, 2) := by decide +kernel
theorem xL_law_195 : dcd mL_law 195 = some (.iadd, 1, 0, 0) := by decide +kernel
theorem xL_law_196 : dcd mL_law 196 = some (.iaload, 1, 0, 0) := by decide +kernel
theorem xL_law_197 : dcd mL_law 197 = some (.invokevirtual 17, 3, 0, 0) := by decide +kernel
theorem xL_law_200 : dcd mL_law 200 = some (.if_icmp .eq 0, 3, 1198, 0) := by decide +kernel
theorem xL_law_203 : dcd mL_law 203 = some (.iconst 0, 1, 0, 0) := by decide +kernel
theorem xL_law_204 : dcd mL_law 204 = some (.ireturn, 1, 0, 0) := by decide +kernel
theorem xL_law_205 : dcd mL_law 205 = some (.aload 1, 1, 0, 0) := by decide +kernel
theorem xL_law_206 : dcd mL_law 206 = some (.aload 0, 1, 0, 0) := by decide +kernel
theorem xL_law_207 : dcd mL_law 207 = some (.iload 3, 1, 0, 0) := by decide +kernel
theorem xL_law_208 : dcd mL_law 208 = some (.iconst 0, 1, 0, 1) := by decide +kernel
theorem xL_law_209 : dcd mL_law 209 = some (.iadd, 1, 0, 0) := by decide +kernel
theorem xL_law_210 : dcd mL_law 210 = some (.iaload, 1, 0, 0) := by decide +kernel
theorem xL_law_211 : dcd mL_law 211 = some (.aload 0, 1, 0, 0) := by decide +kernel
theorem xL_law_212 : dcd mL_law 212 = some (.iload 3, 1, 0, 0) := by decide +kernel
theorem xL_law_213 : dcd mL_law 213 = some (.iconst 0, 1, 0, 2) := by decide +kernel
theorem xL_law_214 : dcd mL_law 214 = some (.iadd, 1, 0, 0) := by decide +kernel
theorem xL_law_215 : dcd mL_law 215 = some (.iaload, 1, 0, 0) := by decide +kernel
theorem xL_law_216 : dcd mL_law 216 = some (.invokevirtual 18, 3, 0, 0) := by decide +kernel
theorem xL_law_219 : dcd mL_law 219 = some (.aload 2, 1, 0, 0) := by decide +kernel
theorem xL_law_220 : dcd mL_law 220 = some (.aload 0, 1, 0, 0) := by decide +kernel
theorem xL_law_221 : dcd mL_law 221 = some (.iload 3, 1, 0, 0) := by decide +kernel
theorem xL_law_222 : dcd mL_law 222 = some (.iconst 0, 1, 0, 1) := by decide +kernel
theorem xL_law_223 : dcd mL_law 223 = some (.iadd, 1, 0, 0) := by decide +kernel
theorem xL_law_224 : dcd mL_law 224 = some (.iaload, 1, 0, 0) := by decide +kernel
theorem xL_law_225 : dcd mL_law 225 = some (.aload 0, 1, 0, 0) := by decide +kernel
theorem xL_law_226 : dcd mL_law 226 = some (.iload 3, 1, 0, 0) := by decide +kernel
theorem xL_law_227 : dcd mL_law 227 = some (.iconst 0, 1, 0, 2) := by decide +kernel
theorem xL_law_228 : dcd mL_law 228 = some (.iadd, 1, 0, 0) := by decide +kernel
theorem xL_law_229 : dcd mL_law 229 = some (.iaload, 1, 0, 0) := by decide +kernel
theorem xL_law_230 : dcd mL_law 230 = some (.invokevirtual 22, 3, 0, 0) := by decide +kernel
theorem xL_law_233 : dcd mL_law 233 = some (.if_icmp .eq 0, 3, 1198, 0) := by decide +kernel
theorem xL_law_236 : dcd mL_law 236 = some (.iconst 0, 1, 0, 0) := by decide +kernel
theorem xL_law_237 : dcd mL_law 237 = some (.ireturn, 1, 0, 0) := by decide +kernel
theorem xL_law_238 : dcd mL_law 238 = some (.aload 1, 1, 0, 0) := by decide +kernel
theorem xL_law_239 : dcd mL_law 239 = some (.aload 0, 1, 0, 0) := by decide +kernel
theorem xL_law_240 : dcd mL_law 240 = some (.iload 3, 1, 0, 0) := by decide +kernel
theorem xL_law_241 : dcd mL_law 241 = some (.iconst 0, 1, 0, 1) := by decide +kernel
theorem xL_law_242 : dcd mL_law 242 = some (.iadd, 1, 0, 0) := by decide +kernel
theorem xL_law_243 : dcd mL_law 243 = some (.iaload, 1, 0, 0) := by decide +kernel
theorem xL_law_244 : dcd mL_law 244 = some (.aload 0, 1, 0, 0) := by decide +kernel
theorem xL_law_245 : dcd mL_law 245 = some (.iload 3, 1, 0, 0) := by decide +kernel
theorem xL_law_246 : dcd mL_law 246 = some (.iconst 0, 1, 0, 2) := by decide +kernel
theorem xL_law_247 : dcd mL_law 247 = some (.iadd, 1, 0, 0) := by decide +kernel
theorem xL_law_248 : dcd mL_law 248 = some (.iaload, 1, 0, 0) := by decide +kernel
theorem xL_law_249 : dcd mL_law 249 = some (.ifCond .eq 0, 3, 256, 0) := by decide +kernel
theorem xL_law_252 : dcd mL_law 252 = some (.iconst 0, 1, 0, 1) := by decide +kernel
theorem xL_law_253 : dcd mL_law 253 = some (.goto 0, 3, 257, 0) := by decide +kernel
theorem xL_law_256 : dcd mL_law 256 = some (.iconst 0, 1, 0, 0) := by decide +kernel
theorem xL_law_257 : dcd mL_law 257 = some (.invokevirtual 23, 3, 0, 0) := by decide +kernel
theorem xL_law_260 : dcd mL_law 260 = some (.aload 2, 1, 0, 0) := by decide +kernel
theorem xL_law_261 : dcd mL_law 261 = some (.aload 0, 1, 0, 0) := by decide +kernel
theorem xL_law_262 : dcd mL_law 262 = some (.iload 3, 1, 0, 0) := by decide +kernel
theorem xL_law_263 : dcd mL_law 263 = some (.iconst 0, 1, 0, 1) := by decide +kernel
theorem xL_law_264 : dcd mL_law 264 = some (.iadd, 1, 0, 0) := by decide +kernel
theorem xL_law_265 : dcd mL_law 265 = some (.iaload, 1, 0, 0) := by decide +kernel
theorem xL_law_266 : dcd mL_law 266 = some (.aload 0, 1, 0, 0) := by decide +kernel
theorem xL_law_267 : dcd mL_law 267 = some (.iload 3, 1, 0, 0) := by decide +kernel
theorem xL_law_268 : dcd mL_law 268 = some (.iconst 0, 1, 0, 2) := by decide +kernel
theorem xL_law_269 : dcd mL_law 269 = some (.iadd, 1, 0, 0) := by decide +kernel
theorem xL_law_270 : dcd mL_law 270 = some (.iaload, 1, 0, 0) := by decide +kernel
theorem xL_law_271 : dcd mL_law 271 = some (.ifCond .eq 0, 3, 278, 0) := by decide +kernel
theorem xL_law_274 : dcd mL_law 274 = some (.iconst 0, 1, 0, 1) := by decide +kernel
theorem xL_law_275 : dcd mL_law 275 = some (.goto 0, 3, 279, 0) := by decide +kernel
theorem xL_law_278 : dcd mL_law 278 = some (.iconst 0, 1, 0, 0) := by decide +kernel
theorem xL_law_279 : dcd mL_law 279 = some (.invokevirtual 27, 3, 0, 0) := by decide +kernel
theorem xL_law_282 : dcd mL_law 282 = some (.if_icmp .eq 0, 3, 1198, 0) := by decide +kernel
theorem xL_law_285 : dcd mL_law 285 = some (.iconst 0, 1, 0, 0) := by decide +kernel
theorem xL_law_286 : dcd mL_law 286 = some (.ireturn, 1, 0, 0) := by decide +kernel
theorem xL_law_287 : dcd mL_law 287 = some (.aload 1, 1, 0, 0) := by decide +kernel
theorem xL_law_288 : dcd mL_law 288 = some (.aload 0, 1, 0, 0) := by decide +kernel
theorem xL_law_289 : dcd mL_law 289 = some (.iload 3, 1, 0, 0) := by decide +kernel
theorem xL_law_290 : dcd mL_law 290 = some (.iconst 0, 1, 0, 1) := by decide +kernel
theorem xL_law_291 : dcd mL_law 291 = some (.iadd, 1, 0, 0) := by decide +kernel
theorem xL_law_292 : dcd mL_law 292 = some (.iaload, 1, 0, 0) := by decide +kernel
theorem xL_law_293 : dcd mL_law 293 = some (.aload 0, 1, 0, 0) := by decide +kernel
theorem xL_law_294 : dcd mL_law 294 = some (.iload 3, 1, 0, 0) := by decide +kernel
theorem xL_law_295 : dcd mL_law 295 = some (.iconst 0, 1, 0, 2) := by decide +kernel
theorem xL_law_296 : dcd mL_law 296 = some (.iadd, 1, 0, 0) := by decide +kernel
theorem xL_law_297 : dcd mL_law 297 = some (.iaload, 1, 0, 0) := by decide +kernel
theorem xL_law_298 : dcd mL_law 298 = some (.ifCond .eq 0, 3, 305, 0) := by decide +kernel
theorem xL_law_301 : dcd mL_law 301 = some (.iconst 0, 1, 0, 1) := by decide +kernel
theorem xL_law_302 : dcd mL_law 302 = some (.goto 0, 3, 306, 0) := by decide +kernel
theorem xL_law_305 : dcd mL_law 305 = some (.iconst 0, 1, 0, 0) := by decide +kernel
theorem xL_law_306 : dcd mL_law 306 = some (.invokevirtual 28, 3, 0, 0) := by decide +kernel
theorem xL_law_309 : dcd mL_law 309 = some (.aload 2, 1, 0, 0) := by decide +kernel
theorem xL_law_310 : dcd mL_law 310 = some (.aload 0, 1, 0, 0) := by decide +kernel
theorem xL_law_311 : dcd mL_law 311 = some (.iload 3, 1, 0, 0) := by decide +kernel
theorem xL_law_312 : dcd mL_law 312 = some (.iconst 0, 1, 0, 1) := by decide +kernel
theorem xL_law_313 : dcd mL_law 313 = some (.iadd, 1, 0, 0) := by decide +kernel
theorem xL_law_314 : dcd mL_law 314 = some (.iaload, 1, 0, 0) := by decide +kernel
theorem xL_law_315 : dcd mL_law 315 = some (.aload 0, 1, 0, 0) := by decide +kernel
theorem xL_law_316 : dcd mL_law 316 = some (.iload 3, 1, 0, 0) := by decide +kernel
theorem xL_law_317 : dcd mL_law 317 = some (.iconst 0, 1, 0, 2) := by decide +kernel
theorem xL_law_318 : dcd mL_law 318 = some (.iadd, 1, 0, 0) := by decide +kernel
theorem xL_law_319 : dcd mL_law 319 = some (.iaload, 1, 0, 0) := by decide +kernel
theorem xL_law_320 : dcd mL_law 320 = some (.ifCond .eq 0, 3, 327, 0) := by decide +kernel
theorem xL_law_323 : dcd mL_law 323 = some (.iconst 0, 1, 0, 1) := by decide +kernel
theorem xL_law_324 : dcd mL_law 324 = some (.goto 0, 3, 328, 0) := by decide +kernel
theorem xL_law_327 : dcd mL_law 327 = some (.iconst 0, 1, 0, 0) := by decide +kernel
theorem xL_law_328 : dcd mL_law 328 = some (.invokevirtual 31, 3, 0, 0) := by decide +kernel
theorem xL_law_331 : dcd mL_law 331 = some (.if_icmp .eq 0, 3, 1198, 0) := by decide +kernel
theorem xL_law_334 : dcd mL_law 334 = some (.iconst 0, 1, 0, 0) := by decide +kernel
theorem xL_law_335 : dcd mL_law 335 = some (.ireturn, 1, 0, 0) := by decide +kernel
theorem xL_law_336 : dcd mL_law 336 = some (.aload 1, 1, 0, 0) := by decide +kernel
theorem xL_law_337 : dcd mL_law 337 = some (.aload 0, 1, 0, 0) := by decide +kernel
theorem xL_law_338 : dcd mL_law 338 = some (.iload 3, 1, 0, 0) := by decide +kernel
theorem xL_law_339 : dcd mL_law 339 = some (.iconst 0, 1, 0, 1) := by decide +kernel
theorem xL_law_340 : dcd mL_law 340 = some (.iadd, 1, 0, 0) := by decide +kernel
theorem xL_law_341 : dcd mL_law 341 = some (.iaload, 1, 0, 0) := by decide +kernel
theorem xL_law_342 : dcd mL_law 342 = some (.aload 0, 1, 0, 0) := by decide +kernel
theorem xL_law_343 : dcd mL_law 343 = some (.iload 3, 1, 0, 0) := by decide +kernel
theorem xL_law_344 : dcd mL_law 344 = some (.iconst 0, 1, 0, 2) := by decide +kernel
theorem xL_law_345 : dcd mL_law 345 = some (.iadd, 1, 0, 0) := by decide +kernel
theorem xL_law_346 : dcd mL_law 346 = some (.iaload, 1, 0, 0) := by decide +kernel
theorem xL_law_347 : dcd mL_law 347 = some (.aload 0, 1, 0, 0) := by decide +kernel
theorem xL_law_348 : dcd mL_law 348 = some (.iload 3, 1, 0, 0) := by decide +kernel
theorem xL_law_349 : dcd mL_law 349 = some (.iconst 0, 1, 0, 3) := by decide +kernel
theorem xL_law_350 : dcd mL_law 350 = some (.iadd, 1, 0, 0) := by decide +kernel
theorem xL_law_351 : dcd mL_law 351 = some (.iaload, 1, 0, 0) := by decide +kernel
theorem xL_law_352 : dcd mL_law 352 = some (.aload 0, 1, 0, 0) := by decide +kernel
theorem xL_law_353 : dcd mL_law 353 = some (.iload 3, 1, 0, 0) := by decide +kernel
theorem xL_law_354 : dcd mL_law 354 = some (.iconst 0, 1, 0, 4) := by decide +kernel
theorem xL_law_355 : dcd mL_law 355 = some (.iadd, 1, 0, 0) := by decide +kernel
theorem xL_law_356 : dcd mL_law 356 = some (.iaload, 1, 0, 0) := by decide +kernel
theorem xL_law_357 : dcd mL_law 357 = some (.invokevirtual 32, 3, 0, 0) := by decide +kernel
theorem xL_law_360 : dcd mL_law 360 = some (.aload 2, 1, 0, 0) := by decide +kernel
theorem xL_law_361 : dcd mL_law 361 = some (.aload 0, 1, 0, 0) := by decide +kernel
theorem xL_law_362 : dcd mL_law 362 = some (.iload 3, 1, 0, 0) := by decide +kernel
theorem xL_law_363 : dcd mL_law 363 = some (.iconst 0, 1, 0, 1) := by decide +kernel
theorem xL_law_364 : dcd mL_law 364 = some (.iadd, 1, 0, 0) := by decide +kernel
theorem xL_law_365 : dcd mL_law 365 = some (.iaload, 1, 0, 0) := by decide +kernel
theorem xL_law_366 : dcd mL_law 366 = some (.aload 0, 1, 0, 0) := by decide +kernel
theorem xL_law_367 : dcd mL_law 367 = some (.iload 3, 1, 0, 0) := by decide +kernel
theorem xL_law_368 : dcd mL_law 368 = some (.iconst 0, 1, 0, 2) := by decide +kernel
theorem xL_law_369 : dcd mL_law 369 = some (.iadd, 1, 0, 0) := by decide +kernel
theorem xL_law_370 : dcd mL_law 370 = some (.iaload, 1, 0, 0) := by decide +kernel
theorem xL_law_371 : dcd mL_law 371 = some (.aload 0, 1, 0, 0) := by decide +kernel
theorem xL_law_372 : dcd mL_law 372 = some (.iload 3, 1, 0, 0) := by decide +kernel
theorem xL_law_373 : dcd mL_law 373 = some (.iconst 0, 1, 0, 3) := by decide +kernel
theorem xL_law_374 : dcd mL_law 374 = some (.iadd, 1, 0, 0) := by decide +kernel
theorem xL_law_375 : dcd mL_law 375 = some (.iaload, 1, 0, 0) := by decide +kernel
theorem xL_law_376 : dcd mL_law 376 = some (.aload 0, 1, 0, 0) := by decide +kernel
theorem xL_law_377 : dcd mL_law 377 = some (.iload 3, 1, 0, 0) := by decide +kernel
theorem xL_law_378 : dcd mL_law 378 = some (.iconst 0, 1, 0, 4) := by decide +kernel
theorem xL_law_379 : dcd mL_law 379 = some (.iadd, 1, 0, 0) := by decide +kernel
theorem xL_law_380 : dcd mL_law 380 = some (.iaload, 1, 0, 0) := by decide +kernel
theorem xL_law_381 : dcd mL_law 381 = some (.invokevirtual 36, 3, 0, 0) := by decide +kernel
theorem xL_law_384 : dcd mL_law 384 = some (.if_icmp .eq 0, 3, 1198, 0) := by decide +kernel
theorem xL_law_387 : dcd mL_law 387 = some (.iconst 0, 1, 0, 0) := by decide +kernel
theorem xL_law_388 : dcd mL_law 388 = some (.ireturn, 1, 0, 0) := by decide +kernel
theorem xL_law_389 : dcd mL_law 389 = some (.aload 1, 1, 0, 0) := by decide +kernel
theorem xL_law_390 : dcd mL_law 390 = some (.aload 0, 1, 0, 0) := by decide +kernel
theorem xL_law_391 : dcd mL_law 391 = some (.iload 3, 1, 0, 0) := by decide +kernel
theorem xL_law_392 : dcd mL_law 392 = some (.iconst 0, 1, 0, 1) := by decide +kernel
theorem xL_law_393 : dcd mL_law 393 = some (.iadd, 1, 0, 0) := by decide +kernel
theorem xL_law_394 : dcd mL_law 394 = some (.iaload, 1, 0, 0) := by decide +kernel
theorem xL_law_395 : dcd mL_law 395 = some (.aload 0, 1, 0, 0) := by decide +kernel
theorem xL_law_396 : dcd mL_law 396 = some (.iload 3, 1, 0, 0) := by decide +kernel
theorem xL_law_397 : dcd mL_law 397 = some (.iconst 0, 1, 0, 2) := by decide +kernel
theorem xL_law_398 : dcd mL_law 398 = some (.iadd, 1, 0, 0) := by decide +kernel
theorem xL_law_399 : dcd mL_law 399 = some (.iaload, 1, 0, 0) := by decide +kernel
theorem xL_law_400 : dcd mL_law 400 = some (.aload 0, 1, 0, 0) := by decide +kernel
theorem xL_law_401 : dcd mL_law 401 = some (.iload 3, 1, 0, 0) := by decide +kernel
theorem xL_law_402 : dcd mL_law 402 = some (.iconst 0, 1, 0, 3) := by decide +kernel
theorem xL_law_403 : dcd mL_law 403 = some (.iadd, 1, 0, 0) := by decide +kernel
theorem xL_law_404 : dcd mL_law 404 = some (.iaload, 1, 0, 0) := by decide +kernel
theorem xL_law_405 : dcd mL_law 405 = some (.aload 0, 1, 0, 0) := by decide +kernel
theorem xL_law_406 : dcd mL_law 406 = some (.iload 3, 1, 0, 0) := by decide +kernel
theorem xL_law_407 : dcd mL_law 407 = some (.iconst 0, 1, 0, 4) := by decide +kernel
theorem xL_law_408 : dcd mL_law 408 = some (.iadd, 1, 0, 0) := by decide +kernel
theorem xL_law_409 : dcd mL_law 409 = some (.iaload, 1, 0, 0) := by decide +kernel
theorem xL_law_410 : dcd mL_law 410 = some (.aload 0, 1, 0, 0) := by decide +kernel
theorem xL_law_411 : dcd mL_law 411 = some (.iload 3, 1, 0, 0) := by decide +kernel
theorem xL_law_412 : dcd mL_law 412 = some (.iconst 0, 1, 0, 5) := by decide +kernel
theorem xL_law_413 : dcd mL_law 413 = some (.iadd, 1, 0, 0) := by decide +kernel
theorem xL_law_414 : dcd mL_law 414 = some (.iaload, 1, 0, 0) := by decide +kernel
theorem xL_law_415 : dcd mL_law 415 = some (.invokevirtual 37, 3, 0, 0) := by decide +kernel
theorem xL_law_418 : dcd mL_law 418 = some (.aload 2, 1, 0, 0) := by decide +kernel
theorem xL_law_419 : dcd mL_law 419 = some (.aload 0, 1, 0, 0) := by decide +kernel
theorem xL_law_420 : dcd mL_law 420 = some (.iload 3, 1, 0, 0) := by decide +kernel
theorem xL_law_421 : dcd mL_law 421 = some (.iconst 0, 1, 0, 1) := by decide +kernel
theorem xL_law_422 : dcd mL_law 422 = some (.iadd, 1, 0, 0) := by decide +kernel
theorem xL_law_423 : dcd mL_law 423 = some (.iaload, 1, 0, 0) := by decide +kernel
theorem xL_law_424 : dcd mL_law 424 = some (.aload 0, 1, 0, 0) := by decide +kernel
theorem xL_law_425 : dcd mL_law 425 = some (.iload 3, 1, 0, 0) := by decide +kernel
theorem xL_law_426 : dcd mL_law 426 = some (.iconst 0, 1, 0, 2) := by decide +kernel
theorem xL_law_427 : dcd mL_law 427 = some (.iadd, 1, 0, 0) := by decide +kernel
theorem xL_law_428 : dcd mL_law 428 = some (.iaload, 1, 0, 0) := by decide +kernel
theorem xL_law_429 : dcd mL_law 429 = some (.aload 0, 1, 0, 0) := by decide +kernel
theorem xL_law_430 : dcd mL_law 430 = some (.iload 3, 1, 0, 0) := by decide +kernel
theorem xL_law_431 : dcd mL_law 431 = some (.iconst 0, 1, 0, 3) := by decide +kernel
theorem xL_law_432 : dcd mL_law 432 = some (.iadd, 1, 0, 0) := by decide +kernel
theorem xL_law_433 : dcd mL_law 433 = some (.iaload, 1, 0, 0) := by decide +kernel
theorem xL_law_434 : dcd mL_law 434 = some (.aload 0, 1, 0, 0) := by decide +kernel
theorem xL_law_435 : dcd mL_law 435 = some (.iload 3, 1, 0, 0) := by decide +kernel
theorem xL_law_436 : dcd mL_law 436 = some (.iconst 0, 1, 0, 4) := by decide +kernel
theorem xL_law_437 : dcd mL_law 437 = some (.iadd, 1, 0, 0) := by decide +kernel
theorem xL_law_438 : dcd mL_law 438 = some (.iaload, 1, 0, 0) := by decide +kernel
theorem xL_law_439 : dcd mL_law 439 = some (.aload 0, 1, 0, 0) := by decide +kernel
theorem xL_law_440 : dcd mL_law 440 = some (.iload 3, 1, 0, 0) := by decide +kernel
theorem xL_law_441 : dcd mL_law 441 = some (.iconst 0, 1, 0, 5) := by decide +kernel
theorem xL_law_442 : dcd mL_law 442 = some (.iadd, 1, 0, 0) := by decide +kernel
theorem xL_law_443 : dcd mL_law 443 = some (.iaload, 1, 0, 0) := by decide +kernel
theorem xL_law_444 : dcd mL_law 444 = some (.invokevirtual 41, 3, 0, 0) := by decide +kernel
theorem xL_law_447 : dcd mL_law 447 = some (.if_icmp .eq 0, 3, 1198, 0) := by decide +kernel
theorem xL_law_450 : dcd mL_law 450 = some (.iconst 0, 1, 0, 0) := by decide +kernel
theorem xL_law_451 : dcd mL_law 451 = some (.ireturn, 1, 0, 0) := by decide +kernel
theorem xL_law_452 : dcd mL_law 452 = some (.aload 1, 1, 0, 0) := by decide +kernel
theorem xL_law_453 : dcd mL_law 453 = some (.aload 0, 1, 0, 0) := by decide +kernel
theorem xL_law_454 : dcd mL_law 454 = some (.iload 3, 1, 0, 0) := by decide +kernel
theorem xL_law_455 : dcd mL_law 455 = some (.iconst 0, 1, 0, 1) := by decide +kernel
theorem xL_law_456 : dcd mL_law 456 = some (.iadd, 1, 0, 0) := by decide +kernel
theorem xL_law_457 : dcd mL_law 457 = some (.iaload, 1, 0, 0) := by decide +kernel
theorem xL_law_458 : dcd mL_law 458 = some (.invokevirtual 42, 3, 0, 0) := by decide +kernel
theorem xL_law_461 : dcd mL_law 461 = some (.aload 2, 1, 0, 0) := by decide +kernel
theorem xL_law_462 : dcd mL_law 462 = some (.aload 0, 1, 0, 0) := by decide +kernel
theorem xL_law_463 : dcd mL_law 463 = some (.iload 3, 1, 0, 0) := by decide +kernel
theorem xL_law_464 : dcd mL_law 464 = some (.iconst 0, 1, 0, 1) := by decide +kernel
theorem xL_law_465 : dcd mL_law 465 = some (.iadd, 1, 0, 0) := by decide +kernel
theorem xL_law_466 : dcd mL_law 466 = some (.iaload, 1, 0, 0) := by decide +kernel
theorem xL_law_467 : dcd mL_law 467 = some (.invokevirtual 46, 3, 0, 0) := by decide +kernel
theorem xL_law_470 : dcd mL_law 470 = some (.if_icmp .eq 0, 3, 1198, 0) := by decide +kernel
theorem xL_law_473 : dcd mL_law 473 = some (.iconst 0, 1, 0, 0) := by decide +kernel
theorem xL_law_474 : dcd mL_law 474 = some (.ireturn, 1, 0, 0) := by decide +kernel
theorem xL_law_475 : dcd mL_law 475 = some (.aload 1, 1, 0, 0) := by decide +kernel
theorem xL_law_476 : dcd mL_law 476 = some (.aload 0, 1, 0, 0) := by decide +kernel
theorem xL_law_477 : dcd mL_law 477 = some (.iload 3, 1, 0, 0) := by decide +kernel
theorem xL_law_478 : dcd mL_law 478 = some (.iconst 0, 1, 0, 1) := by decide +kernel
theorem xL_law_479 : dcd mL_law 479 = some (.iadd, 1, 0, 0) := by decide +kernel
theorem xL_law_480 : dcd mL_law 480 = some (.iaload, 1, 0, 0) := by decide +kernel
theorem xL_law_481 : dcd mL_law 481 = some (.aload 0, 1, 0, 0) := by decide +kernel
theorem xL_law_482 : dcd mL_law 482 = some (.iload 3, 1, 0, 0) := by decide +kernel
theorem xL_law_483 : dcd mL_law 483 = some (.iconst 0, 1, 0, 2) := by decide +kernel
theorem xL_law_484 : dcd mL_law 484 = some (.iadd, 1, 0, 0) := by decide +kernel
theorem xL_law_485 : dcd mL_law 485 = some (.iaload, 1, 0, 0) := by decide +kernel
theorem xL_law_486 : dcd mL_law 486 = some (.aload 0, 1, 0, 0) := by decide +kernel
theorem xL_law_487 : dcd mL_law 487 = some (.iload 3, 1, 0, 0) := by decide +kernel
theorem xL_law_488 : dcd mL_law 488 = some (.iconst 0, 1, 0, 3) := by decide +kernel
theorem xL_law_489 : dcd mL_law 489 = some (.iadd, 1, 0, 0) := by decide +kernel
theorem xL_law_490 : dcd mL_law 490 = some (.iaload, 1, 0, 0) := by decide +kernel
theorem xL_law_491 : dcd mL_law 491 = some (.aload 0, 1, 0, 0) := by decide +kernel
theorem xL_law_492 : dcd mL_law 492 = some (.iload 3, 1, 0, 0) := by decide +kernel
theorem xL_law_493 : dcd mL_law 493 = some (.iconst 0, 1, 0, 4) := by decide +kernel
theorem xL_law_494 : dcd mL_law 494 = some (.iadd, 1, 0, 0) := by decide +kernel
theorem xL_law_495 : dcd mL_law 495 = some (.iaload, 1, 0, 0) := by decide +kernel
theorem xL_law_496 : dcd mL_law 496 = some (.aload 0, 1, 0, 0) := by decide +kernel
theorem xL_law_497 : dcd mL_law 497 = some (.iload 3, 1, 0, 0) := by decide +kernel
theorem xL_law_498 : dcd mL_law 498 = some (.iconst 0, 1, 0, 5) := by decide +kernel
theorem xL_law_499 : dcd mL_law 499 = some (.iadd, 1, 0, 0) := by decide +kernel
theorem xL_law_500 : dcd mL_law 500 = some (.iaload, 1, 0, 0) := by decide +kernel
theorem xL_law_501 : dcd mL_law 501 = some (.invokevirtual 47, 3, 0, 0) := by decide +kernel
theorem xL_law_504 : dcd mL_law 504 = some (.aload 2, 1, 0, 0) := by decide +kernel
theorem xL_law_505 : dcd mL_law 505 = some (.aload 0, 1, 0, 0) := by decide +kernel
theorem xL_law_506 : dcd mL_law 506 = some (.iload 3, 1, 0, 0) := by decide +kernel
theorem xL_law_507 : dcd mL_law 507 = some (.iconst 0, 1, 0, 1) := by decide +kernel
theorem xL_law_508 : dcd mL_law 508 = some (.iadd, 1, 0, 0) := by decide +kernel
theorem xL_law_509 : dcd mL_law 509 = some (.iaload, 1, 0, 0) := by decide +kernel
theorem xL_law_510 : dcd mL_law 510 = some (.aload 0, 1, 0, 0) := by decide +kernel
theorem xL_law_511 : dcd mL_law 511 = some (.iload 3, 1, 0, 0) := by decide +kernel
theorem xL_law_512 : dcd mL_law 512 = some (.iconst 0, 1, 0, 2) := by decide +kernel
theorem xL_law_513 : dcd mL_law 513 = some (.iadd, 1, 0, 0) := by decide +kernel
theorem xL_law_514 : dcd mL_law 514 = some (.iaload, 1, 0, 0) := by decide +kernel
theorem xL_law_515 : dcd mL_law 515 = some (.aload 0, 1, 0, 0) := by decide +kernel
theorem xL_law_516 : dcd mL_law 516 = some (.iload 3, 1, 0, 0) := by decide +kernel
theorem xL_law_517 : dcd mL_law 517 = some (.iconst 0, 1, 0, 3) := by decide +kernel
theorem xL_law_518 : dcd mL_law 518 = some (.iadd, 1, 0, 0) := by decide +kernel
theorem xL_law_519 : dcd mL_law 519 = some (.iaload, 1, 0, 0) := by decide +kernel
theorem xL_law_520 : dcd mL_law 520 = some (.aload 0, 1, 0, 0) := by decide +kernel
theorem xL_law_521 : dcd mL_law 521 = some (.iload 3, 1, 0, 0) := by decide +kernel
theorem xL_law_522 : dcd mL_law 522 = some (.iconst 0, 1, 0, 4) := by decide +kernel
theorem xL_law_523 : dcd mL_law 523 = some (.iadd, 1, 0, 0) := by decide +kernel
theorem xL_law_524 : dcd mL_law 524 = some (.iaload, 1, 0, 0) := by decide +kernel
theorem xL_law_525 : dcd mL_law 525 = some (.aload 0, 1, 0, 0) := by decide +kernel
theorem xL_law_526 : dcd mL_law 526 = some (.iload 3, 1, 0, 0) := by decide +kernel
theorem xL_law_527 : dcd mL_law 527 = some (.iconst 0, 1, 0, 5) := by decide +kernel
theorem xL_law_528 : dcd mL_law 528 = some (.iadd, 1, 0, 0) := by decide +kernel
theorem xL_law_529 : dcd mL_law 529 = some (.iaload, 1, 0, 0) := by decide +kernel
theorem xL_law_530 : dcd mL_law 530 = some (.invokevirtual 50, 3, 0, 0) := by decide +kernel
theorem xL_law_533 : dcd mL_law 533 = some (.if_icmp .eq 0, 3, 1198, 0) := by decide +kernel
theorem xL_law_536 : dcd mL_law 536 = some (.iconst 0, 1, 0, 0) := by decide +kernel
theorem xL_law_537 : dcd mL_law 537 = some (.ireturn, 1, 0, 0) := by decide +kernel
theorem xL_law_538 : dcd mL_law 538 = some (.aload 1, 1, 0, 0) := by decide +kernel
theorem xL_law_539 : dcd mL_law 539 = some (.aload 0, 1, 0, 0) := by decide +kernel
theorem xL_law_540 : dcd mL_law 540 = some (.iload 3, 1, 0, 0) := by decide +kernel
theorem xL_law_541 : dcd mL_law 541 = some (.iconst 0, 1, 0, 1) := by decide +kernel
theorem xL_law_542 : dcd mL_law 542 = some (.iadd, 1, 0, 0) := by decide +kernel
theorem xL_law_543 : dcd mL_law 543 = some (.iaload, 1, 0, 0) := by decide +kernel
theorem xL_law_544 : dcd mL_law 544 = some (.invokevirtual 51, 3, 0, 0) := by decide +kernel
theorem xL_law_547 : dcd mL_law 547 = some (.aload 2, 1, 0, 0) := by decide +kernel
theorem xL_law_548 : dcd mL_law 548 = some (.aload 0, 1, 0, 0) := by decide +kernel
theorem xL_law_549 : dcd mL_law 549 = some (.iload 3, 1, 0, 0) := by decide +kernel
theorem xL_law_550 : dcd mL_law 550 = some (.iconst 0, 1, 0, 1) := by decide +kernel
theorem xL_law_551 : dcd mL_law 551 = some (.iadd, 1, 0, 0) := by decide +kernel
theorem xL_law_552 : dcd mL_law 552 = some (.iaload, 1, 0, 0) := by decide +kernel
theorem xL_law_553 : dcd mL_law 553 = some (.invokevirtual 55, 3, 0, 0) := by decide +kernel
theorem xL_law_556 : dcd mL_law 556 = some (.if_icmp .eq 0, 3, 1198, 0) := by decide +kernel
theorem xL_law_559 : dcd mL_law 559 = some (.iconst 0, 1, 0, 0) := by decide +kernel
theorem xL_law_560 : dcd mL_law 560 = some (.ireturn, 1, 0, 0) := by decide +kernel
theorem xL_law_561 : dcd mL_law 561 = some (.aload 1, 1, 0, 0) := by decide +kernel
theorem xL_law_562 : dcd mL_law 562 = some (.aload 0, 1, 0, 0) := by decide +kernel
theorem xL_law_563 : dcd mL_law 563 = some (.iload 3, 1, 0, 0) := by decide +kernel
theorem xL_law_564 : dcd mL_law 564 = some (.iconst 0, 1, 0, 1) := by decide +kernel
theorem xL_law_565 : dcd mL_law 565 = some (.iadd, 1, 0, 0) := by decide +kernel
theorem xL_law_566 : dcd mL_law 566 = some (.iaload, 1, 0, 0) := by decide +kernel
theorem xL_law_567 : dcd mL_law 567 = some (.aload 0, 1, 0, 0) := by decide +kernel
theorem xL_law_568 : dcd mL_law 568 = some (.iload 3, 1, 0, 0) := by decide +kernel
theorem xL_law_569 : dcd mL_law 569 = some (.iconst 0, 1, 0, 2) := by decide +kernel
theorem xL_law_570 : dcd mL_law 570 = some (.iadd, 1, 0, 0) := by decide +kernel
theorem xL_law_571 : dcd mL_law 571 = some (.iaload, 1, 0, 0) := by decide +kernel
theorem xL_law_572 : dcd mL_law 572 = some (.invokevirtual 56, 3, 0, 0) := by decide +kernel
theorem xL_law_575 : dcd mL_law 575 = some (.aload 2, 1, 0, 0) := by decide +kernel
theorem xL_law_576 : dcd mL_law 576 = some (.aload 0, 1, 0, 0) := by decide +kernel
theorem xL_law_577 : dcd mL_law 577 = some (.iload 3, 1, 0, 0) := by decide +kernel
theorem xL_law_578 : dcd mL_law 578 = some (.iconst 0, 1, 0, 1) := by decide +kernel
theorem xL_law_579 : dcd mL_law 579 = some (.iadd, 1, 0, 0) := by decide +kernel
theorem xL_law_580 : dcd mL_law 580 = some (.iaload, 1, 0, 0) := by decide +kernel
theorem xL_law_581 : dcd mL_law 581 = some (.aload 0, 1, 0, 0) := by decide +kernel
theorem xL_law_582 : dcd mL_law 582 = some (.iload 3, 1, 0, 0) := by decide +kernel
theorem xL_law_583 : dcd mL_law 583 = some (.iconst 0, 1, 0, 2) := by decide +kernel
theorem xL_law_584 : dcd mL_law 584 = some (.iadd, 1, 0, 0) := by decide +kernel
theorem xL_law_585 : dcd mL_law 585 = some (.iaload, 1, 0, 0) := by decide +kernel
theorem xL_law_586 : dcd mL_law 586 = some (.invokevirtual 59, 3, 0, 0) := by decide +kernel
theorem xL_law_589 : dcd mL_law 589 = some (.if_icmp .eq 0, 3, 1198, 0) := by decide +kernel
theorem xL_law_592 : dcd mL_law 592 = some (.iconst 0, 1, 0, 0) := by decide +kernel
theorem xL_law_593 : dcd mL_law 593 = some (.ireturn, 1, 0, 0) := by decide +kernel
theorem xL_law_594 : dcd mL_law 594 = some (.aload 1, 1, 0, 0) := by decide +kernel
theorem xL_law_595 : dcd mL_law 595 = some (.aload 0, 1, 0, 0) := by decide +kernel
theorem xL_law_596 : dcd mL_law 596 = some (.iload 3, 1, 0, 0) := by decide +kernel
theorem xL_law_597 : dcd mL_law 597 = some (.iconst 0, 1, 0, 1) := by decide +kernel
theorem xL_law_598 : dcd mL_law 598 = some (.iadd, 1, 0, 0) := by decide +kernel
theorem xL_law_599 : dcd mL_law 599 = some (.iaload, 1, 0, 0) := by decide +kernel
theorem xL_law_600 : dcd mL_law 600 = some (.aload 0, 1, 0, 0) := by decide +kernel
theorem xL_law_601 : dcd mL_law 601 = some (.iload 3, 1, 0, 0) := by decide +kernel
theorem xL_law_602 : dcd mL_law 602 = some (.iconst 0, 1, 0, 2) := by decide +kernel
theorem xL_law_603 : dcd mL_law 603 = some (.iadd, 1, 0, 0) := by decide +kernel
theorem xL_law_604 : dcd mL_law 604 = some (.iaload, 1, 0, 0) := by decide +kernel
theorem xL_law_605 : dcd mL_law 605 = some (.invokevirtual 60, 3, 0, 0) := by decide +kernel
theorem xL_law_608 : dcd mL_law 608 = some (.aload 2, 1, 0, 0) := by decide +kernel
theorem xL_law_609 : dcd mL_law 609 = some (.aload 0, 1, 0, 0) := by decide +kernel
theorem xL_law_610 : dcd mL_law 610 = some (.iload 3, 1, 0, 0) := by decide +kernel
theorem xL_law_611 : dcd mL_law 611 = some (.iconst 0, 1, 0, 1) := by decide +kernel
theorem xL_law_612 : dcd mL_law 612 = some (.iadd, 1, 0, 0) := by decide +kernel
theorem xL_law_613 : dcd mL_law 613 = some (.iaload, 1, 0, 0) := by decide +kernel
theorem xL_law_614 : dcd mL_law 614 = some (.aload 0, 1, 0, 0) := by decide +kernel
theorem xL_law_615 : dcd mL_law 615 = some (.iload 3, 1, 0, 0) := by decide +kernel
theorem xL_law_616 : dcd mL_law 616 = some (.iconst 0, 1, 0, 2) := by decide +kernel
theorem xL_law_617 : dcd mL_law 617 = some (.iadd, 1, 0, 0) := by decide +kernel
theorem xL_law_618 : dcd mL_law 618 = some (.iaload, 1, 0, 0) := by decide +kernel
theorem xL_law_619 : dcd mL_law 619 = some (.invokevirtual 63, 3, 0, 0) := by decide +kernel
theorem xL_law_622 : dcd mL_law 622 = some (.if_icmp .eq 0, 3, 1198, 0) := by decide +kernel
theorem xL_law_625 : dcd mL_law 625 = some (.iconst 0, 1, 0, 0) := by decide +kernel
theorem xL_law_626 : dcd mL_law 626 = some (.ireturn, 1, 0, 0) := by decide +kernel
theorem xL_law_627 : dcd mL_law 627 = some (.aload 1, 1, 0, 0) := by decide +kernel
theorem xL_law_628 : dcd mL_law 628 = some (.aload 0, 1, 0, 0) := by decide +kernel
theorem xL_law_629 : dcd mL_law 629 = some (.iload 3, 1, 0, 0) := by decide +kernel
theorem xL_law_630 : dcd mL_law 630 = some (.iconst 0, 1, 0, 1) := by decide +kernel
theorem xL_law_631 : dcd mL_law 631 = some (.iadd, 1, 0, 0) := by decide +kernel
theorem xL_law_632 : dcd mL_law 632 = some (.iaload, 1, 0, 0) := by decide +kernel
theorem xL_law_633 : dcd mL_law 633 = some (.invokevirtual 64, 3, 0, 0) := by decide +kernel
theorem xL_law_636 : dcd mL_law 636 = some (.aload 2, 1, 0, 0) := by decide +kernel
theorem xL_law_637 : dcd mL_law 637 = some (.aload 0, 1, 0, 0) := by decide +kernel
theorem xL_law_638 : dcd mL_law 638 = some (.iload 3, 1, 0, 0) := by decide +kernel
theorem xL_law_639 : dcd mL_law 639 = some (.iconst 0, 1, 0, 1) := by decide +kernel
theorem xL_law_640 : dcd mL_law 640 = some (.iadd, 1, 0, 0) := by decide +kernel
theorem xL_law_641 : dcd mL_law 641 = some (.iaload, 1, 0, 0) := by decide +kernel
theorem xL_law_642 : dcd mL_law 642 = some (.invokevirtual 67, 3, 0, 0) := by decide +kernel
theorem xL_law_645 : dcd mL_law 645 = some (.if_icmp .eq 0, 3, 1198, 0) := by decide +kernel
theorem xL_law_648 : dcd mL_law 648 = some (.iconst 0, 1, 0, 0) := by decide +kernel
theorem xL_law_649 : dcd mL_law 649 = some (.ireturn, 1, 0, 0) := by decide +kernel
theorem xL_law_650 : dcd mL_law 650 = some (.aload 1, 1, 0, 0) := by decide +kernel
theorem xL_law_651 : dcd mL_law 651 = some (.aload 0, 1, 0, 0) := by decide +kernel
theorem xL_law_652 : dcd mL_law 652 = some (.iload 3, 1, 0, 0) := by decide +kernel
theorem xL_law_653 : dcd mL_law 653 = some (.iconst 0, 1, 0, 1) := by decide +kernel
theorem xL_law_654 : dcd mL_law 654 = some (.iadd, 1, 0, 0) := by decide +kernel
theorem xL_law_655 : dcd mL_law 655 = some (.iaload, 1, 0, 0) := by decide +kernel
theorem xL_law_656 : dcd mL_law 656 = some (.aload 0, 1, 0, 0) := by decide +kernel
theorem xL_law_657 : dcd mL_law 657 = some (.iload 3, 1, 0, 0) := by decide +kernel
theorem xL_law_658 : dcd mL_law 658 = some (.iconst 0, 1, 0, 2) := by decide +kernel
theorem xL_law_659 : dcd mL_law 659 = some (.iadd, 1, 0, 0) := by decide +kernel
theorem xL_law_660 : dcd mL_law 660 = some (.iaload, 1, 0, 0) := by decide +kernel
theorem xL_law_661 : dcd mL_law 661 = some (.aload 0, 1, 0, 0) := by decide +kernel
theorem xL_law_662 : dcd mL_law 662 = some (.iload 3, 1, 0, 0) := by decide +kernel
theorem xL_law_663 : dcd mL_law 663 = some (.iconst 0, 1, 0, 3) := by decide +kernel
theorem xL_law_664 : dcd mL_law 664 = some (.iadd, 1, 0, 0) := by decide +kernel
theorem xL_law_665 : dcd mL_law 665 = some (.iaload, 1, 0, 0) := by decide +kernel
theorem xL_law_666 : dcd mL_law 666 = some (.invokevirtual 68, 3, 0, 0) := by decide +kernel
theorem xL_law_669 : dcd mL_law 669 = some (.aload 2, 1, 0, 0) := by decide +kernel
theorem xL_law_670 : dcd mL_law 670 = some (.aload 0, 1, 0, 0) := by decide +kernel
theorem xL_law_671 : dcd mL_law 671 = some (.iload 3, 1, 0, 0) := by decide +kernel
theorem xL_law_672 : dcd mL_law 672 = some (.iconst 0, 1, 0, 1) := by decide +kernel
theorem xL_law_673 : dcd mL_law 673 = some (.iadd, 1, 0, 0) := by decide +kernel
theorem xL_law_674 : dcd mL_law 674 = some (.iaload, 1, 0, 0) := by decide +kernel
theorem xL_law_675 : dcd mL_law 675 = some (.aload 0, 1, 0, 0) := by decide +kernel
theorem xL_law_676 : dcd mL_law 676 = some (.iload 3, 1, 0, 0) := by decide +kernel
theorem xL_law_677 : dcd mL_law 677 = some (.iconst 0, 1, 0, 2) := by decide +kernel
theorem xL_law_678 : dcd mL_law 678 = some (.iadd, 1, 0, 0) := by decide +kernel
theorem xL_law_679 : dcd mL_law 679 = some (.iaload, 1, 0, 0) := by decide +kernel
theorem xL_law_680 : dcd mL_law 680 = some (.aload 0, 1, 0, 0) := by decide +kernel
theorem xL_law_681 : dcd mL_law 681 = some (.iload 3, 1, 0, 0) := by decide +kernel
theorem xL_law_682 : dcd mL_law 682 = some (.iconst 0, 1, 0, 3) := by decide +kernel
theorem xL_law_683 : dcd mL_law 683 = some (.iadd, 1, 0, 0) := by decide +kernel
theorem xL_law_684 : dcd mL_law 684 = some (.iaload, 1, 0, 0) := by decide +kernel
theorem xL_law_685 : dcd mL_law 685 = some (.invokevirtual 72, 3, 0, 0) := by decide +kernel
theorem xL_law_688 : dcd mL_law 688 = some (.if_icmp .eq 0, 3, 1198, 0) := by decide +kernel
theorem xL_law_691 : dcd mL_law 691 = some (.iconst 0, 1, 0, 0) := by decide +kernel
theorem xL_law_692 : dcd mL_law 692 = some (.ireturn, 1, 0, 0) := by decide +kernel
theorem xL_law_693 : dcd mL_law 693 = some (.aload 1, 1, 0, 0) := by decide +kernel
theorem xL_law_694 : dcd mL_law 694 = some (.aload 0, 1, 0, 0) := by decide +kernel
theorem xL_law_695 : dcd mL_law 695 = some (.iload 3, 1, 0, 0) := by decide +kernel
theorem xL_law_696 : dcd mL_law 696 = some (.iconst 0, 1, 0, 1) := by decide +kernel
theorem xL_law_697 : dcd mL_law 697 = some (.iadd, 1, 0, 0) := by decide +kernel
theorem xL_law_698 : dcd mL_law 698 = some (.iaload, 1, 0, 0) := by decide +kernel
theorem xL_law_699 : dcd mL_law 699 = some (.invokevirtual 73, 3, 0, 0) := by decide +kernel
theorem xL_law_702 : dcd mL_law 702 = some (.aload 2, 1, 0, 0) := by decide +kernel
theorem xL_law_703 : dcd mL_law 703 = some (.aload 0, 1, 0, 0) := by decide +kernel
theorem xL_law_704 : dcd mL_law 704 = some (.iload 3, 1, 0, 0) := by decide +kernel
theorem xL_law_705 : dcd mL_law 705 = some (.iconst 0, 1, 0, 1) := by decide +kernel
theorem xL_law_706 : dcd mL_law 706 = some (.iadd, 1, 0, 0) := by decide +kernel
theorem xL_law_707 : dcd mL_law 707 = some (.iaload, 1, 0, 0) := by decide +kernel
theorem xL_law_708 : dcd mL_law 708 = some (.invokevirtual 76, 3, 0, 0) := by decide +kernel
theorem xL_law_711 : dcd mL_law 711 = some (.if_icmp .eq 0, 3, 1198, 0) := by decide +kernel
theorem xL_law_714 : dcd mL_law 714 = some (.iconst 0, 1, 0, 0) := by decide +kernel
theorem xL_law_715 : dcd mL_law 715 = some (.ireturn, 1, 0, 0) := by decide +kernel
theorem xL_law_716 : dcd mL_law 716 = some (.aload 1, 1, 0, 0) := by decide +kernel
theorem xL_law_717 : dcd mL_law 717 = some (.aload 0, 1, 0, 0) := by decide +kernel
theorem xL_law_718 : dcd mL_law 718 = some (.iload 3, 1, 0, 0) := by decide +kernel
theorem xL_law_719 : dcd mL_law 719 = some (.iconst 0, 1, 0, 1) := by decide +kernel
theorem xL_law_720 : dcd mL_law 720 = some (.iadd, 1, 0, 0) := by decide +kernel
theorem xL_law_721 : dcd mL_law 721 = some (.iaload, 1, 0, 0) := by decide +kernel
theorem xL_law_722 : dcd mL_law 722 = some (.aload 0, 1, 0, 0) := by decide +kernel
theorem xL_law_723 : dcd mL_law 723 = some (.iload 3, 1, 0, 0) := by decide +kernel
theorem xL_law_724 : dcd mL_law 724 = some (.iconst 0, 1, 0, 2) := by decide +kernel
theorem xL_law_725 : dcd mL_law 725 = some (.iadd, 1, 0, 0) := by decide +kernel
theorem xL_law_726 : dcd mL_law 726 = some (.iaload, 1, 0, 0) := by decide +kernel
theorem xL_law_727 : dcd mL_law 727 = some (.aload 0, 1, 0, 0) := by decide +kernel
theorem xL_law_728 : dcd mL_law 728 = some (.iload 3, 1, 0, 0) := by decide +kernel
theorem xL_law_729 : dcd mL_law 729 = some (.iconst 0, 1, 0, 3) := by decide +kernel
theorem xL_law_730 : dcd mL_law 730 = some (.iadd, 1, 0, 0) := by decide +kernel
theorem xL_law_731 : dcd mL_law 731 = some (.iaload, 1, 0, 0) := by decide +kernel
theorem xL_law_732 : dcd mL_law 732 = some (.aload 0, 1, 0, 0) := by decide +kernel
theorem xL_law_733 : dcd mL_law 733 = some (.iload 3, 1, 0, 0) := by decide +kernel
theorem xL_law_734 : dcd mL_law 734 = some (.iconst 0, 1, 0, 4) := by decide +kernel
theorem xL_law_735 : dcd mL_law 735 = some (.iadd, 1, 0, 0) := by decide +kernel
theorem xL_law_736 : dcd mL_law 736 = some (.iaload, 1, 0, 0) := by decide +kernel
theorem xL_law_737 : dcd mL_law 737 = some (.invokevirtual 77, 3, 0, 0) := by decide +kernel
theorem xL_law_740 : dcd mL_law 740 = some (.aload 2, 1, 0, 0) := by decide +kernel
theorem xL_law_741 : dcd mL_law 741 = some (.aload 0, 1, 0, 0) := by decide +kernel
theorem xL_law_742 : dcd mL_law 742 = some (.iload 3, 1, 0, 0) := by decide +kernel
theorem xL_law_743 : dcd mL_law 743 = some (.iconst 0, 1, 0, 1) := by decide +kernel
theorem xL_law_744 : dcd mL_law 744 = some (.iadd, 1, 0, 0) := by decide +kernel
theorem xL_law_745 : dcd mL_law 745 = some (.iaload, 1, 0, 0) := by decide +kernel
theorem xL_law_746 : dcd mL_law 746 = some (.aload 0, 1, 0, 0) := by decide +kernel
theorem xL_law_747 : dcd mL_law 747 = some (.iload 3, 1, 0, 0) := by decide +kernel
theorem xL_law_748 : dcd mL_law 748 = some (.iconst 0, 1, 0, 2) := by decide +kernel
theorem xL_law_749 : dcd mL_law 749 = some (.iadd, 1, 0, 0) := by decide +kernel
theorem xL_law_750 : dcd mL_law 750 = some (.iaload, 1, 0, 0) := by decide +kernel
theorem xL_law_751 : dcd mL_law 751 = some (.aload 0, 1, 0, 0) := by decide +kernel
theorem xL_law_752 : dcd mL_law 752 = some (.iload 3, 1, 0, 0) := by decide +kernel
theorem xL_law_753 : dcd mL_law 753 = some (.iconst 0, 1, 0, 3) := by decide +kernel
theorem xL_law_754 : dcd mL_law 754 = some (.iadd, 1, 0, 0) := by decide +kernel
theorem xL_law_755 : dcd mL_law 755 = some (.iaload, 1, 0, 0) := by decide +kernel
theorem xL_law_756 : dcd mL_law 756 = some (.aload 0, 1, 0, 0) := by decide +kernel
theorem xL_law_757 : dcd mL_law 757 = some (.iload 3, 1, 0, 0) := by decide +kernel
theorem xL_law_758 : dcd mL_law 758 = some (.iconst 0, 1, 0, 4) := by decide +kernel
theorem xL_law_759 : dcd mL_law 759 = some (.iadd, 1, 0, 0) := by decide +kernel
theorem xL_law_760 : dcd mL_law 760 = some (.iaload, 1, 0, 0) := by decide +kernel
theorem xL_law_761 : dcd mL_law 761 = some (.invokevirtual 80, 3, 0, 0) := by decide +kernel
theorem xL_law_764 : dcd mL_law 764 = some (.if_icmp .eq 0, 3, 1198, 0) := by decide +kernel
theorem xL_law_767 : dcd mL_law 767 = some (.iconst 0, 1, 0, 0) := by decide +kernel
theorem xL_law_768 : dcd mL_law 768 = some (.ireturn, 1, 0, 0) := by decide +kernel
theorem xL_law_769 : dcd mL_law 769 = some (.aload 1, 1, 0, 0) := by decide +kernel
theorem xL_law_770 : dcd mL_law 770 = some (.aload 0, 1, 0, 0) := by decide +kernel
theorem xL_law_771 : dcd mL_law 771 = some (.iload 3, 1, 0, 0) := by decide +kernel
theorem xL_law_772 : dcd mL_law 772 = some (.iconst 0, 1, 0, 1) := by decide +kernel
theorem xL_law_773 : dcd mL_law 773 = some (.iadd, 1, 0, 0) := by decide +kernel
theorem xL_law_774 : dcd mL_law 774 = some (.iaload, 1, 0, 0) := by decide +kernel
theorem xL_law_775 : dcd mL_law 775 = some (.aload 0, 1, 0, 0) := by decide +kernel
theorem xL_law_776 : dcd mL_law 776 = some (.iload 3, 1, 0, 0) := by decide +kernel
theorem xL_law_777 : dcd mL_law 777 = some (.iconst 0, 1, 0, 2) := by decide +kernel
theorem xL_law_778 : dcd mL_law 778 = some (.iadd, 1, 0, 0) := by decide +kernel
theorem xL_law_779 : dcd mL_law 779 = some (.iaload, 1, 0, 0) := by decide +kernel
theorem xL_law_780 : dcd mL_law 780 = some (.invokevirtual 81, 3, 0, 0) := by decide +kernel
theorem xL_law_783 : dcd mL_law 783 = some (.aload 2, 1, 0, 0) := by decide +kernel
theorem xL_law_784 : dcd mL_law 784 = some (.aload 0, 1, 0, 0) := by decide +kernel
theorem xL_law_785 : dcd mL_law 785 = some (.iload 3, 1, 0, 0) := by decide +kernel
theorem xL_law_786 : dcd mL_law 786 = some (.iconst 0, 1, 0, 1) := by decide +kernel
theorem xL_law_787 : dcd mL_law 787 = some (.iadd, 1, 0, 0) := by decide +kernel
theorem xL_law_788 : dcd mL_law 788 = some (.iaload, 1, 0, 0) := by decide +kernel
theorem xL_law_789 : dcd mL_law 789 = some (.aload 0, 1, 0, 0) := by decide +kernel
theorem xL_law_790 : dcd mL_law 790 = some (.iload 3, 1, 0, 0) := by decide +kernel
theorem xL_law_791 : dcd mL_law 791 = some (.iconst 0, 1, 0, 2) := by decide +kernel
theorem xL_law_792 : dcd mL_law 792 = some (.iadd, 1, 0, 0) := by decide +kernel
theorem xL_law_793 : dcd mL_law 793 = some (.iaload, 1, 0, 0) := by decide +kernel
theorem xL_law_794 : dcd mL_law 794 = some (.invokevirtual 84, 3, 0, 0) := by decide +kernel
theorem xL_law_797 : dcd mL_law 797 = some (.if_icmp .eq 0, 3, 1198, 0) := by decide +kernel
theorem xL_law_800 : dcd mL_law 800 = some (.iconst 0, 1, 0, 0) := by decide +kernel
theorem xL_law_801 : dcd mL_law 801 = some (.ireturn, 1, 0, 0) := by decide +kernel
theorem xL_law_802 : dcd mL_law 802 = some (.aload 1, 1, 0, 0) := by decide +kernel
theorem xL_law_803 : dcd mL_law 803 = some (.aload 0, 1, 0, 0) := by decide +kernel
theorem xL_law_804 : dcd mL_law 804 = some (.iload 3, 1, 0, 0) := by decide +kernel
theorem xL_law_805 : dcd mL_law 805 = some (.iconst 0, 1, 0, 1) := by decide +kernel
theorem xL_law_806 : dcd mL_law 806 = some (.iadd, 1, 0, 0) := by decide +kernel
theorem xL_law_807 : dcd mL_law 807 = some (.iaload, 1, 0, 0) := by decide +kernel
theorem xL_law_808 : dcd mL_law 808 = some (.invokevirtual 85, 3, 0, 0) := by decide +kernel
theorem xL_law_811 : dcd mL_law 811 = some (.aload 2, 1, 0, 0) := by decide +kernel
theorem xL_law_812 : dcd mL_law 812 = some (.aload 0, 1, 0, 0) := by decide +kernel
theorem xL_law_813 : dcd mL_law 813 = some (.iload 3, 1, 0, 0) := by decide +kernel
theorem xL_law_814 : dcd mL_law 814 = some (.iconst 0, 1, 0, 1) := by decide +kernel
theorem xL_law_815 : dcd mL_law 815 = some (.iadd, 1, 0, 0) := by decide +kernel
theorem xL_law_816 : dcd mL_law 816 = some (.iaload, 1, 0, 0) := by decide +kernel
theorem xL_law_817 : dcd mL_law 817 = some (.invokevirtual 88, 3, 0, 0) := by decide +kernel
theorem xL_law_820 : dcd mL_law 820 = some (.if_icmp .eq 0, 3, 1198, 0) := by decide +kernel
theorem xL_law_823 : dcd mL_law 823 = some (.iconst 0, 1, 0, 0) := by decide +kernel
theorem xL_law_824 : dcd mL_law 824 = some (.ireturn, 1, 0, 0) := by decide +kernel
theorem xL_law_825 : dcd mL_law 825 = some (.aload 1, 1, 0, 0) := by decide +kernel
theorem xL_law_826 : dcd mL_law 826 = some (.invokevirtual 89, 3, 0, 0) := by decide +kernel
theorem xL_law_829 : dcd mL_law 829 = some (.aload 2, 1, 0, 0) := by decide +kernel
theorem xL_law_830 : dcd mL_law 830 = some (.invokevirtual 93, 3, 0, 0) := by decide +kernel
theorem xL_law_833 : dcd mL_law 833 = some (.lcmp, 1, 0, 0) := by decide +kernel
theorem xL_law_834 : dcd mL_law 834 = some (.ifCond .eq 0, 3, 1198, 0) := by decide +kernel
theorem xL_law_837 : dcd mL_law 837 = some (.iconst 0, 1, 0, 0) := by decide +kernel
theorem xL_law_838 : dcd mL_law 838 = some (.ireturn, 1, 0, 0) := by decide +kernel
theorem xL_law_839 : dcd mL_law 839 = some (.aload 1, 1, 0, 0) := by decide +kernel
theorem xL_law_840 : dcd mL_law 840 = some (.aload 0, 1, 0, 0) := by decide +kernel
theorem xL_law_841 : dcd mL_law 841 = some (.iload 3, 1, 0, 0) := by decide +kernel
theorem xL_law_842 : dcd mL_law 842 = some (.iconst 0, 1, 0, 1) := by decide +kernel
theorem xL_law_843 : dcd mL_law 843 = some (.iadd, 1, 0, 0) := by decide +kernel
theorem xL_law_844 : dcd mL_law 844 = some (.iaload, 1, 0, 0) := by decide +kernel
theorem xL_law_845 : dcd mL_law 845 = some (.aload 0, 1, 0, 0) := by decide +kernel
theorem xL_law_846 : dcd mL_law 846 = some (.iload 3, 1, 0, 0) := by decide +kernel
theorem xL_law_847 : dcd mL_law 847 = some (.iconst 0, 1, 0, 2) := by decide +kernel
theorem xL_law_848 : dcd mL_law 848 = some (.iadd, 1, 0, 0) := by decide +kernel
theorem xL_law_849 : dcd mL_law 849 = some (.iaload, 1, 0, 0) := by decide +kernel
theorem xL_law_850 : dcd mL_law 850 = some (.invokevirtual 94, 3, 0, 0) := by decide +kernel
theorem xL_law_853 : dcd mL_law 853 = some (.aload 2, 1, 0, 0) := by decide +kernel
theorem xL_law_854 : dcd mL_law 854 = some (.aload 0, 1, 0, 0) := by decide +kernel
theorem xL_law_855 : dcd mL_law 855 = some (.iload 3, 1, 0, 0) := by decide +kernel
theorem xL_law_856 : dcd mL_law 856 = some (.iconst 0, 1, 0, 1) := by decide +kernel
theorem xL_law_857 : dcd mL_law 857 = some (.iadd, 1, 0, 0) := by decide +kernel
theorem xL_law_858 : dcd mL_law 858 = some (.iaload, 1, 0, 0) := by decide +kernel
theorem xL_law_859 : dcd mL_law 859 = some (.aload 0, 1, 0, 0) := by decide +kernel
theorem xL_law_860 : dcd mL_law 860 = some (.iload 3, 1, 0, 0) := by decide +kernel
theorem xL_law_861 : dcd mL_law 861 = some (.iconst 0, 1, 0, 2) := by decide +kernel
theorem xL_law_862 : dcd mL_law 862 = some (.iadd, 1, 0, 0) := by decide +kernel
theorem xL_law_863 : dcd mL_law 863 = some (.iaload, 1, 0, 0) := by decide +kernel
theorem xL_law_864 : dcd mL_law 864 = some (.invokevirtual 97, 3, 0, 0) := by decide +kernel
theorem xL_law_867 : dcd mL_law 867 = some (.if_icmp .eq 0, 3, 1198, 0) := by decide +kernel
theorem xL_law_870 : dcd mL_law 870 = some (.iconst 0, 1, 0, 0) := by decide +kernel
theorem xL_law_871 : dcd mL_law 871 = some (.ireturn, 1, 0, 0) := by decide +kernel
theorem xL_law_872 : dcd mL_law 872 = some (.aload 1, 1, 0, 0) := by decide +kernel
theorem xL_law_873 : dcd mL_law 873 = some (.aload 0, 1, 0, 0) := by decide +kernel
theorem xL_law_874 : dcd mL_law 874 = some (.iload 3, 1, 0, 0) := by decide +kernel
theorem xL_law_875 : dcd mL_law 875 = some (.iconst 0, 1, 0, 1) := by decide +kernel
theorem xL_law_876 : dcd mL_law 876 = some (.iadd, 1, 0, 0) := by decide +kernel
theorem xL_law_877 : dcd mL_law 877 = some (.iaload, 1, 0, 0) := by decide +kernel
theorem xL_law_878 : dcd mL_law 878 = some (.aload 0, 1, 0, 0) := by decide +kernel
theorem xL_law_879 : dcd mL_law 879 = some (.iload 3, 1, 0, 0) := by decide +kernel
theorem xL_law_880 : dcd mL_law 880 = some (.iconst 0, 1, 0, 2) := by decide +kernel
theorem xL_law_881 : dcd mL_law 881 = some (.iadd, 1, 0, 0) := by decide +kernel
theorem xL_law_882 : dcd mL_law 882 = some (.iaload, 1, 0, 0) := by decide +kernel
theorem xL_law_883 : dcd mL_law 883 = some (.aload 0, 1, 0, 0) := by decide +kernel
theorem xL_law_884 : dcd mL_law 884 = some (.iload 3, 1, 0, 0) := by decide +kernel
theorem xL_law_885 : dcd mL_law 885 = some (.iconst 0, 1, 0, 3) := by decide +kernel
theorem xL_law_886 : dcd mL_law 886 = some (.iadd, 1, 0, 0) := by decide +kernel
theorem xL_law_887 : dcd mL_law 887 = some (.iaload, 1, 0, 0) := by decide +kernel
theorem xL_law_888 : dcd mL_law 888 = some (.aload 0, 1, 0, 0) := by decide +kernel
theorem xL_law_889 : dcd mL_law 889 = some (.iload 3, 1, 0, 0) := by decide +kernel
theorem xL_law_890 : dcd mL_law 890 = some (.iconst 0, 1, 0, 4) := by decide +kernel
theorem xL_law_891 : dcd mL_law 891 = some (.iadd, 1, 0, 0) := by decide +kernel
theorem xL_law_892 : dcd mL_law 892 = some (.iaload, 1, 0, 0) := by decide +kernel
theorem xL_law_893 : dcd mL_law 893 = some (.invokevirtual 98, 3, 0, 0) := by decide +kernel
theorem xL_law_896 : dcd mL_law 896 = some (.aload 2, 1, 0, 0) := by decide +kernel
theorem xL_law_897 : dcd mL_law 897 = some (.aload 0, 1, 0, 0) := by decide +kernel
theorem xL_law_898 : dcd mL_law 898 = some (.iload 3, 1, 0, 0) := by decide +kernel
theorem xL_law_899 : dcd mL_law 899 = some (.iconst 0, 1, 0, 1) := by decide +kernel
theorem xL_law_900 : dcd mL_law 900 = some (.iadd, 1, 0, 0) := by decide +kernel
theorem xL_law_901 : dcd mL_law 901 = some (.iaload, 1, 0, 0) := by decide +kernel
theorem xL_law_902 : dcd mL_law 902 = some (.aload 0, 1, 0, 0) := by decide +kernel
theorem xL_law_903 : dcd mL_law 903 = some (.iload 3, 1, 0, 0) := by decide +kernel
theorem xL_law_904 : dcd mL_law 904 = some (.iconst 0, 1, 0, 2) := by decide +kernel
theorem xL_law_905 : dcd mL_law 905 = some (.iadd, 1, 0, 0) := by decide +kernel
theorem xL_law_906 : dcd mL_law 906 = some (.iaload, 1, 0, 0) := by decide +kernel
theorem xL_law_907 : dcd mL_law 907 = some (.aload 0, 1, 0, 0) := by decide +kernel
theorem xL_law_908 : dcd mL_law 908 = some (.iload 3, 1, 0, 0) := by decide +kernel
theorem xL_law_909 : dcd mL_law 909 = some (.iconst 0, 1, 0, 3) := by decide +kernel
theorem xL_law_910 : dcd mL_law 910 = some (.iadd, 1, 0, 0) := by decide +kernel
theorem xL_law_911 : dcd mL_law 911 = some (.iaload, 1, 0, 0) := by decide +kernel
theorem xL_law_912 : dcd mL_law 912 = some (.aload 0, 1, 0, 0) := by decide +kernel
theorem xL_law_913 : dcd mL_law 913 = some (.iload 3, 1, 0, 0) := by decide +kernel
theorem xL_law_914 : dcd mL_law 914 = some (.iconst 0, 1, 0, 4) := by decide +kernel
theorem xL_law_915 : dcd mL_law 915 = some (.iadd, 1, 0, 0) := by decide +kernel
theorem xL_law_916 : dcd mL_law 916 = some (.iaload, 1, 0, 0) := by decide +kernel
theorem xL_law_917 : dcd mL_law 917 = some (.invokevirtual 101, 3, 0, 0) := by decide +kernel
theorem xL_law_920 : dcd mL_law 920 = some (.if_icmp .eq 0, 3, 1198, 0) := by decide +kernel
theorem xL_law_923 : dcd mL_law 923 = some (.iconst 0, 1, 0, 0) := by decide +kernel
theorem xL_law_924 : dcd mL_law 924 = some (.ireturn, 1, 0, 0) := by decide +kernel
theorem xL_law_925 : dcd mL_law 925 = some (.aload 1, 1, 0, 0) := by decide +kernel
theorem xL_law_926 : dcd mL_law 926 = some (.aload 0, 1, 0, 0) := by decide +kernel
theorem xL_law_927 : dcd mL_law 927 = some (.iload 3, 1, 0, 0) := by decide +kernel
theorem xL_law_928 : dcd mL_law 928 = some (.iconst 0, 1, 0, 1) := by decide +kernel
theorem xL_law_929 : dcd mL_law 929 = some (.iadd, 1, 0, 0) := by decide +kernel
theorem xL_law_930 : dcd mL_law 930 = some (.iaload, 1, 0, 0) := by decide +kernel
theorem xL_law_931 : dcd mL_law 931 = some (.aload 0, 1, 0, 0) := by decide +kernel
theorem xL_law_932 : dcd mL_law 932 = some (.iload 3, 1, 0, 0) := by decide +kernel
theorem xL_law_933 : dcd mL_law 933 = some (.iconst 0, 1, 0, 2) := by decide +kernel
theorem xL_law_934 : dcd mL_law 934 = some (.iadd, 1, 0, 0) := by decide +kernel
theorem xL_law_935 : dcd mL_law 935 = some (.iaload, 1, 0, 0) := by decide +kernel
theorem xL_law_936 : dcd mL_law 936 = some (.invokevirtual 102, 3, 0, 0) := by decide +kernel
theorem xL_law_939 : dcd mL_law 939 = some (.aload 2, 1, 0, 0) := by decide +kernel
theorem xL_law_940 : dcd mL_law 940 = some (.aload 0, 1, 0, 0) := by decide +kernel
theorem xL_law_941 : dcd mL_law 941 = some (.iload 3, 1, 0, 0) := by decide +kernel
theorem xL_law_942 : dcd mL_law 942 = some (.iconst 0, 1, 0, 1) := by decide +kernel
theorem xL_law_943 : dcd mL_law 943 = some (.iadd, 1, 0, 0) := by decide +kernel
theorem xL_law_944 : dcd mL_law 944 = some (.iaload, 1, 0, 0) := by decide +kernel
theorem xL_law_945 : dcd mL_law 945 = some (.aload 0, 1, 0, 0) := by decide +kernel
theorem xL_law_946 : dcd mL_law 946 = some (.iload 3, 1, 0, 0) := by decide +kernel
theorem xL_law_947 : dcd mL_law 947 = some (.iconst 0, 1, 0, 2) := by decide +kernel
theorem xL_law_948 : dcd mL_law 948 = some (.iadd, 1, 0, 0) := by decide +kernel
theorem xL_law_949 : dcd mL_law 949 = some (.iaload, 1, 0, 0) := by decide +kernel
theorem xL_law_950 : dcd mL_law 950 = some (.invokevirtual 105, 3, 0, 0) := by decide +kernel
theorem xL_law_953 : dcd mL_law 953 = some (.if_icmp .eq 0, 3, 1198, 0) := by decide +kernel
theorem xL_law_956 : dcd mL_law 956 = some (.iconst 0, 1, 0, 0) := by decide +kernel
theorem xL_law_957 : dcd mL_law 957 = some (.ireturn, 1, 0, 0) := by decide +kernel
theorem xL_law_958 : dcd mL_law 958 = some (.aload 1, 1, 0, 0) := by decide +kernel
theorem xL_law_959 : dcd mL_law 959 = some (.aload 0, 1, 0, 0) := by decide +kernel
theorem xL_law_960 : dcd mL_law 960 = some (.iload 3, 1, 0, 0) := by decide +kernel
theorem xL_law_961 : dcd mL_law 961 = some (.iconst 0, 1, 0, 1) := by decide +kernel
theorem xL_law_962 : dcd mL_law 962 = some (.iadd, 1, 0, 0) := by decide +kernel
theorem xL_law_963 : dcd mL_law 963 = some (.iaload, 1, 0, 0) := by decide +kernel
theorem xL_law_964 : dcd mL_law 964 = some (.invokevirtual 106, 3, 0, 0) := by decide +kernel
theorem xL_law_967 : dcd mL_law 967 = some (.aload 2, 1, 0, 0) := by decide +kernel
theorem xL_law_968 : dcd mL_law 968 = some (.aload 0, 1, 0, 0) := by decide +kernel
theorem xL_law_969 : dcd mL_law 969 = some (.iload 3, 1, 0, 0) := by decide +kernel
theorem xL_law_970 : dcd mL_law 970 = some (.iconst 0, 1, 0, 1) := by decide +kernel
theorem xL_law_971 : dcd mL_law 971 = some (.iadd, 1, 0, 0) := by decide +kernel
theorem xL_law_972 : dcd mL_law 972 = some (.iaload, 1, 0, 0) := by decide +kernel
theorem xL_law_973 : dcd mL_law 973 = some (.invokevirtual 109, 3, 0, 0) := by decide +kernel
theorem xL_law_976 : dcd mL_law 976 = some (.if_icmp .eq 0, 3, 1198, 0) := by decide +kernel
theorem xL_law_979 : dcd mL_law 979 = some (.iconst 0, 1, 0, 0) := by decide +kernel
theorem xL_law_980 : dcd mL_law 980 = some (.ireturn, 1, 0, 0) := by decide +kernel
theorem xL_law_981 : dcd mL_law 981 = some (.aload 1, 1, 0, 0) := by decide +kernel
theorem xL_law_982 : dcd mL_law 982 = some (.invokevirtual 110, 3, 0, 0) := by decide +kernel
theorem xL_law_985 : dcd mL_law 985 = some (.aload 2, 1, 0, 0) := by decide +kernel
theorem xL_law_986 : dcd mL_law 986 = some (.invokevirtual 114, 3, 0, 0) := by decide +kernel
theorem xL_law_989 : dcd mL_law 989 = some (.if_icmp .eq 0, 3, 1198, 0) := by decide +kernel
theorem xL_law_992 : dcd mL_law 992 = some (.iconst 0, 1, 0, 0) := by decide +kernel
theorem xL_law_993 : dcd mL_law 993 = some (.ireturn, 1, 0, 0) := by decide +kernel
theorem xL_law_994 : dcd mL_law 994 = some (.aload 1, 1, 0, 0) := by decide +kernel
theorem xL_law_995 : dcd mL_law 995 = some (.aload 0, 1, 0, 0) := by decide +kernel
theorem xL_law_996 : dcd mL_law 996 = some (.iload 3, 1, 0, 0) := by decide +kernel
theorem xL_law_997 : dcd mL_law 997 = some (.iconst 0, 1, 0, 1) := by decide +kernel
theorem xL_law_998 : dcd mL_law 998 = some (.iadd, 1, 0, 0) := by decide +kernel
theorem xL_law_999 : dcd mL_law 999 = some (.iaload, 1, 0, 0) := by decide +kernel
theorem xL_law_1000 : dcd mL_law 1000 = some (.aload 0, 1, 0, 0) := by decide +kernel
theorem xL_law_1001 : dcd mL_law 1001 = some (.iload 3, 1, 0, 0) := by decide +kernel
theorem xL_law_1002 : dcd mL_law 1002 = some (.iconst 0, 1, 0, 2) := by decide +kernel
theorem xL_law_1003 : dcd mL_law 1003 = some (.iadd, 1, 0, 0) := by decide +kernel
theorem xL_law_1004 : dcd mL_law 1004 = some (.iaload, 1, 0, 0) := by decide +kernel
theorem xL_law_1005 : dcd mL_law 1005 = some (.aload 0, 1, 0, 0) := by decide +kernel
theorem xL_law_1006 : dcd mL_law 1006 = some (.iload 3, 1, 0, 0) := by decide +kernel
theorem xL_law_1007 : dcd mL_law 1007 = some (.iconst 0, 1, 0, 3) := by decide +kernel
theorem xL_law_1008 : dcd mL_law 1008 = some (.iadd, 1, 0, 0) := by decide +kernel
theorem xL_law_1009 : dcd mL_law 1009 = some (.iaload, 1, 0, 0) := by decide +kernel
theorem xL_law_1010 : dcd mL_law 1010 = some (.invokevirtual 115, 3, 0, 0) := by decide +kernel
theorem xL_law_1013 : dcd mL_law 1013 = some (.aload 2, 1, 0, 0) := by decide +kernel
theorem xL_law_1014 : dcd mL_law 1014 = some (.aload 0, 1, 0, 0) := by decide +kernel
theorem xL_law_1015 : dcd mL_law 1015 = some (.iload 3, 1, 0, 0) := by decide +kernel
theorem xL_law_1016 : dcd mL_law 1016 = some (.iconst 0, 1, 0, 1) := by decide +kernel
theorem xL_law_1017 : dcd mL_law 1017 = some (.iadd, 1, 0, 0) := by decide +kernel
theorem xL_law_1018 : dcd mL_law 1018 = some (.iaload, 1, 0, 0) := by decide +kernel
theorem xL_law_1019 : dcd mL_law 1019 = some (.aload 0, 1, 0, 0) := by decide +kernel
theorem xL_law_1020 : dcd mL_law 1020 = some (.iload 3, 1, 0, 0) := by decide +kernel
theorem xL_law_1021 : dcd mL_law 1021 = some (.iconst 0, 1, 0, 2) := by decide +kernel
theorem xL_law_1022 : dcd mL_law 1022 = some (.iadd, 1, 0, 0) := by decide +kernel
theorem xL_law_1023 : dcd mL_law 1023 = some (.iaload, 1, 0, 0) := by decide +kernel
theorem xL_law_1024 : dcd mL_law 1024 = some (.aload 0, 1, 0, 0) := by decide +kernel
theorem xL_law_1025 : dcd mL_law 1025 = some (.iload 3, 1, 0, 0) := by decide +kernel
theorem xL_law_1026 : dcd mL_law 1026 = some (.iconst 0, 1, 0, 3) := by decide +kernel
theorem xL_law_1027 : dcd mL_law 1027 = some (.iadd, 1, 0, 0) := by decide +kernel
theorem xL_law_1028 : dcd mL_law 1028 = some (.iaload, 1, 0, 0) := by decide +kernel
theorem xL_law_1029 : dcd mL_law 1029 = some (.invokevirtual 119, 3, 0, 0) := by decide +kernel
theorem xL_law_1032 : dcd mL_law 1032 = some (.if_icmp .eq 0, 3, 1198, 0) := by decide +kernel
theorem xL_law_1035 : dcd mL_law 1035 = some (.iconst 0, 1, 0, 0) := by decide +kernel
theorem xL_law_1036 : dcd mL_law 1036 = some (.ireturn, 1, 0, 0) := by decide +kernel
theorem xL_law_1037 : dcd mL_law 1037 = some (.aload 1, 1, 0, 0) := by decide +kernel
theorem xL_law_1038 : dcd mL_law 1038 = some (.aload 0, 1, 0, 0) := by decide +kernel
theorem xL_law_1039 : dcd mL_law 1039 = some (.iload 3, 1, 0, 0) := by decide +kernel
theorem xL_law_1040 : dcd mL_law 1040 = some (.iconst 0, 1, 0, 1) := by decide +kernel
theorem xL_law_1041 : dcd mL_law 1041 = some (.iadd, 1, 0, 0) := by decide +kernel
theorem xL_law_1042 : dcd mL_law 1042 = some (.iaload, 1, 0, 0) := by decide +kernel
theorem xL_law_1043 : dcd mL_law 1043 = some (.aload 0, 1, 0, 0) := by decide +kernel
theorem xL_law_1044 : dcd mL_law 1044 = some (.iload 3, 1, 0, 0) := by decide +kernel
theorem xL_law_1045 : dcd mL_law 1045 = some (.iconst 0, 1, 0, 2) := by decide +kernel
theorem xL_law_1046 : dcd mL_law 1046 = some (.iadd, 1, 0, 0) := by decide +kernel
theorem xL_law_1047 : dcd mL_law 1047 = some (.iaload, 1, 0, 0) := by decide +kernel
theorem xL_law_1048 : dcd mL_law 1048 = some (.aload 0, 1, 0, 0) := by decide +kernel
theorem xL_law_1049 : dcd mL_law 1049 = some (.iload 3, 1, 0, 0) := by decide +kernel
theorem xL_law_1050 : dcd mL_law 1050 = some (.iconst 0, 1, 0, 3) := by decide +kernel
theorem xL_law_1051 : dcd mL_law 1051 = some (.iadd, 1, 0, 0) := by decide +kernel
theorem xL_law_1052 : dcd mL_law 1052 = some (.iaload, 1, 0, 0) := by decide +kernel
theorem xL_law_1053 : dcd mL_law 1053 = some (.invokevirtual 120, 3, 0, 0) := by decide +kernel
theorem xL_law_1056 : dcd mL_law 1056 = some (.aload 2, 1, 0, 0) := by decide +kernel
theorem xL_law_1057 : dcd mL_law 1057 = some (.aload 0, 1, 0, 0) := by decide +kernel
theorem xL_law_1058 : dcd mL_law 1058 = some (.iload 3, 1, 0, 0) := by decide +kernel
theorem xL_law_1059 : dcd mL_law 1059 = some (.iconst 0, 1, 0, 1) := by decide +kernel
theorem xL_law_1060 : dcd mL_law 1060 = some (.iadd, 1, 0, 0) := by decide +kernel
theorem xL_law_1061 : dcd mL_law 1061 = some (.iaload, 1, 0, 0) := by decide +kernel
theorem xL_law_1062 : dcd mL_law 1062 = some (.aload 0, 1, 0, 0) := by decide +kernel
theorem xL_law_1063 : dcd mL_law 1063 = some (.iload 3, 1, 0, 0) := by decide +kernel
theorem xL_law_1064 : dcd mL_law 1064 = some (.iconst 0, 1, 0, 2) := by decide +kernel
theorem xL_law_1065 : dcd mL_law 1065 = some (.iadd, 1, 0, 0) := by decide +kernel
theorem xL_law_1066 : dcd mL_law 1066 = some (.iaload, 1, 0, 0) := by decide +kernel
theorem xL_law_1067 : dcd mL_law 1067 = some (.aload 0, 1, 0, 0) := by decide +kernel
theorem xL_law_1068 : dcd mL_law 1068 = some (.iload 3, 1, 0, 0) := by decide +kernel
theorem xL_law_1069 : dcd mL_law 1069 = some (.iconst 0, 1, 0, 3) := by decide +kernel
theorem xL_law_1070 : dcd mL_law 1070 = some (.iadd, 1, 0, 0) := by decide +kernel
theorem xL_law_1071 : dcd mL_law 1071 = some (.iaload, 1, 0, 0) := by decide +kernel
theorem xL_law_1072 : dcd mL_law 1072 = some (.invokevirtual 123, 3, 0, 0) := by decide +kernel
theorem xL_law_1075 : dcd mL_law 1075 = some (.if_icmp .eq 0, 3, 1198, 0) := by decide +kernel
theorem xL_law_1078 : dcd mL_law 1078 = some (.iconst 0, 1, 0, 0) := by decide +kernel
theorem xL_law_1079 : dcd mL_law 1079 = some (.ireturn, 1, 0, 0) := by decide +kernel
theorem xL_law_1080 : dcd mL_law 1080 = some (.aload 1, 1, 0, 0) := by decide +kernel
theorem xL_law_1081 : dcd mL_law 1081 = some (.aload 0, 1, 0, 0) := by decide +kernel
theorem xL_law_1082 : dcd mL_law 1082 = some (.iload 3, 1, 0, 0) := by decide +kernel
theorem xL_law_1083 : dcd mL_law 1083 = some (.iconst 0, 1, 0, 1) := by decide +kernel
theorem xL_law_1084 : dcd mL_law 1084 = some (.iadd, 1, 0, 0) := by decide +kernel
theorem xL_law_1085 : dcd mL_law 1085 = some (.iaload, 1, 0, 0) := by decide +kernel
theorem xL_law_1086 : dcd mL_law 1086 = some (.invokevirtual 124, 3, 0, 0) := by decide +kernel
theorem xL_law_1089 : dcd mL_law 1089 = some (.aload 2, 1, 0, 0) := by decide +kernel
theorem xL_law_1090 : dcd mL_law 1090 = some (.aload 0, 1, 0, 0) := by decide +kernel
theorem xL_law_1091 : dcd mL_law 1091 = some (.iload 3, 1, 0, 0) := by decide +kernel
theorem xL_law_1092 : dcd mL_law 1092 = some (.iconst 0, 1, 0, 1) := by decide +kernel
theorem xL_law_1093 : dcd mL_law 1093 = some (.iadd, 1, 0, 0) := by decide +kernel
theorem xL_law_1094 : dcd mL_law 1094 = some (.iaload, 1, 0, 0) := by decide +kernel
theorem xL_law_1095 : dcd mL_law 1095 = some (.invokevirtual 127, 3, 0, 0) := by decide +kernel
theorem xL_law_1098 : dcd mL_law 1098 = some (.if_icmp .eq 0, 3, 1198, 0) := by decide +kernel
theorem xL_law_1101 : dcd mL_law 1101 = some (.iconst 0, 1, 0, 0) := by decide +kernel
theorem xL_law_1102 : dcd mL_law 1102 = some (.ireturn, 1, 0, 0) := by decide +kernel
theorem xL_law_1103 : dcd mL_law 1103 = some (.aload 1, 1, 0, 0) := by decide +kernel
theorem xL_law_1104 : dcd mL_law 1104 = some (.aload 0, 1, 0, 0) := by decide +kernel
theorem xL_law_1105 : dcd mL_law 1105 = some (.iload 3, 1, 0, 0) := by decide +kernel
theorem xL_law_1106 : dcd mL_law 1106 = some (.iconst 0, 1, 0, 1) := by decide +kernel
theorem xL_law_1107 : dcd mL_law 1107 = some (.iadd, 1, 0, 0) := by decide +kernel
theorem xL_law_1108 : dcd mL_law 1108 = some (.iaload, 1, 0, 0) := by decide +kernel
theorem xL_law_1109 : dcd mL_law 1109 = some (.invokevirtual 128, 3, 0, 0) := by decide +kernel
theorem xL_law_1112 : dcd mL_law 1112 = some (.aload 2, 1, 0, 0) := by decide +kernel
theorem xL_law_1113 : dcd mL_law 1113 = some (.aload 0, 1, 0, 0) := by decide +kernel
theorem xL_law_1114 : dcd mL_law 1114 = some (.iload 3, 1, 0, 0) := by decide +kernel
theorem xL_law_1115 : dcd mL_law 1115 = some (.iconst 0, 1, 0, 1) := by decide +kernel
theorem xL_law_1116 : dcd mL_law 1116 = some (.iadd, 1, 0, 0) := by decide +kernel
theorem xL_law_1117 : dcd mL_law 1117 = some (.iaload, 1, 0, 0) := by decide +kernel
theorem xL_law_1118 : dcd mL_law 1118 = some (.invokevirtual 131, 3, 0, 0) := by decide +kernel
theorem xL_law_1121 : dcd mL_law 1121 = some (.if_icmp .eq 0, 3, 1198, 0) := by decide +kernel
theorem xL_law_1124 : dcd mL_law 1124 = some (.iconst 0, 1, 0, 0) := by decide +kernel
theorem xL_law_1125 : dcd mL_law 1125 = some (.ireturn, 1, 0, 0) := by decide +kernel
theorem xL_law_1126 : dcd mL_law 1126 = some (.aload 1, 1, 0, 0) := by decide +kernel
theorem xL_law_1127 : dcd mL_law 1127 = some (.invokevirtual 132, 3, 0, 0) := by decide +kernel
theorem xL_law_1130 : dcd mL_law 1130 = some (.aload 2, 1, 0, 0) := by decide +kernel
theorem xL_law_1131 : dcd mL_law 1131 = some (.invokevirtual 135, 3, 0, 0) := by decide +kernel
theorem xL_law_1134 : dcd mL_law 1134 = some (.if_icmp .eq 0, 3, 1198, 0) := by decide +kernel
theorem xL_law_1137 : dcd mL_law 1137 = some (.iconst 0, 1, 0, 0) := by decide +kernel
theorem xL_law_1138 : dcd mL_law 1138 = some (.ireturn, 1, 0, 0) := by decide +kernel
theorem xL_law_1139 : dcd mL_law 1139 = some (.aload 1, 1, 0, 0) := by decide +kernel
theorem xL_law_1140 : dcd mL_law 1140 = some (.invokevirtual 136, 3, 0, 0) := by decide +kernel
theorem xL_law_1143 : dcd mL_law 1143 = some (.aload 2, 1, 0, 0) := by decide +kernel
theorem xL_law_1144 : dcd mL_law 1144 = some (.invokevirtual 140, 3, 0, 0) := by decide +kernel
theorem xL_law_1147 : dcd mL_law 1147 = some (.if_icmp .eq 0, 3, 1198, 0) := by decide +kernel
theorem xL_law_1150 : dcd mL_law 1150 = some (.iconst 0, 1, 0, 0) := by decide +kernel
theorem xL_law_1151 : dcd mL_law 1151 = some (.ireturn, 1, 0, 0) := by decide +kernel
theorem xL_law_1152 : dcd mL_law 1152 = some (.aload 1, 1, 0, 0) := by decide +kernel
theorem xL_law_1153 : dcd mL_law 1153 = some (.aload 0, 1, 0, 0) := by decide +kernel
theorem xL_law_1154 : dcd mL_law 1154 = some (.iload 3, 1, 0, 0) := by decide +kernel
theorem xL_law_1155 : dcd mL_law 1155 = some (.iconst 0, 1, 0, 1) := by decide +kernel
theorem xL_law_1156 : dcd mL_law 1156 = some (.iadd, 1, 0, 0) := by decide +kernel
theorem xL_law_1157 : dcd mL_law 1157 = some (.iaload, 1, 0, 0) := by decide +kernel
theorem xL_law_1158 : dcd mL_law 1158 = some (.invokevirtual 141, 3, 0, 0) := by decide +kernel
theorem xL_law_1161 : dcd mL_law 1161 = some (.aload 2, 1, 0, 0) := by decide +kernel
theorem xL_law_1162 : dcd mL_law 1162 = some (.aload 0, 1, 0, 0) := by decide +kernel
theorem xL_law_1163 : dcd mL_law 1163 = some (.iload 3, 1, 0, 0) := by decide +kernel
theorem xL_law_1164 : dcd mL_law 1164 = some (.iconst 0, 1, 0, 1) := by decide +kernel
theorem xL_law_1165 : dcd mL_law 1165 = some (.iadd, 1, 0, 0) := by decide +kernel
theorem xL_law_1166 : dcd mL_law 1166 = some (.iaload, 1, 0, 0) := by decide +kernel
theorem xL_law_1167 : dcd mL_law 1167 = some (.invokevirtual 144, 3, 0, 0) := by decide +kernel
theorem xL_law_1170 : dcd mL_law 1170 = some (.if_icmp .eq 0, 3, 1198, 0) := by decide +kernel
theorem xL_law_1173 : dcd mL_law 1173 = some (.iconst 0, 1, 0, 0) := by decide +kernel
theorem xL_law_1174 : dcd mL_law 1174 = some (.ireturn, 1, 0, 0) := by decide +kernel
theorem xL_law_1175 : dcd mL_law 1175 = some (.aload 1, 1, 0, 0) := by decide +kernel
theorem xL_law_1176 : dcd mL_law 1176 = some (.aload 0, 1, 0, 0) := by decide +kernel
theorem xL_law_1177 : dcd mL_law 1177 = some (.iload 3, 1, 0, 0) := by decide +kernel
theorem xL_law_1178 : dcd mL_law 1178 = some (.iconst 0, 1, 0, 1) := by decide +kernel
theorem xL_law_1179 : dcd mL_law 1179 = some (.iadd, 1, 0, 0) := by decide +kernel
theorem xL_law_1180 : dcd mL_law 1180 = some (.iaload, 1, 0, 0) := by decide +kernel
theorem xL_law_1181 : dcd mL_law 1181 = some (.invokevirtual 145, 3, 0, 0) := by decide +kernel
theorem xL_law_1184 : dcd mL_law 1184 = some (.aload 2, 1, 0, 0) := by decide +kernel
theorem xL_law_1185 : dcd mL_law 1185 = some (.aload 0, 1, 0, 0) := by decide +kernel
theorem xL_law_1186 : dcd mL_law 1186 = some (.iload 3, 1, 0, 0) := by decide +kernel
theorem xL_law_1187 : dcd mL_law 1187 = some (.iconst 0, 1, 0, 1) := by decide +kernel
theorem xL_law_1188 : dcd mL_law 1188 = some (.iadd, 1, 0, 0) := by decide +kernel
theorem xL_law_1189 : dcd mL_law 1189 = some (.iaload, 1, 0, 0) := by decide +kernel
theorem xL_law_1190 : dcd mL_law 1190 = some (.invokevirtual 148, 3, 0, 0) := by decide +kernel
theorem xL_law_1193 : dcd mL_law 1193 = some (.if_icmp .eq 0, 3, 1198, 0) := by decide +kernel
theorem xL_law_1196 : dcd mL_law 1196 = some (.iconst 0, 1, 0, 0) := by decide +kernel
theorem xL_law_1197 : dcd mL_law 1197 = some (.ireturn, 1, 0, 0) := by decide +kernel
theorem xL_law_1198 : dcd mL_law 1198 = some (.iinc 3 0, 3, 0, 6) := by decide +kernel
theorem xL_law_1201 : dcd mL_law 1201 = some (.goto 0, 3, 18, 0) := by decide +kernel
theorem xL_law_1204 : dcd mL_law 1204 = some (.iconst 0, 1, 0, 1) := by decide +kernel
theorem xL_law_1205 : dcd mL_law 1205 = some (.ireturn, 1, 0, 0) := by decide +kernel
theorem xJ6_bitCount_0f7a4_0 : dcd mJ6_bitCount_0f7a4 0 = some (.iload 0, 1, 0, 0) := by decide +kernel
theorem xJ6_bitCount_0f7a4_1 : dcd mJ6_bitCount_0f7a4 1 = some (.iload 0, 1, 0, 0) := by decide +kernel
theorem xJ6_bitCount_0f7a4_2 : dcd mJ6_bitCount_0f7a4 2 = some (.iconst 0, 1, 0, 1) := by decide +kernel
theorem xJ6_bitCount_0f7a4_3 : dcd mJ6_bitCount_0f7a4 3 = some (.iushr, 1, 0, 0) := by decide +kernel
theorem xJ6_bitCount_0f7a4_4 : dcd mJ6_bitCount_0f7a4 4 = some (.ldc 265, 3, 0, 0) := by decide +kernel
theorem xJ6_bitCount_0f7a4_7 : dcd mJ6_bitCount_0f7a4 7 = some (.iand, 1, 0, 0) := by decide +kernel
theorem xJ6_bitCount_0f7a4_8 : dcd mJ6_bitCount_0f7a4 8 = some (.isub, 1, 0, 0) := by decide +kernel
theorem xJ6_bitCount_0f7a4_9 : dcd mJ6_bitCount_0f7a4 9 = some (.istore 0, 1, 0, 0) := by decide +kernel
theorem xJ6_bitCount_0f7a4_10 : dcd mJ6_bitCount_0f7a4 10 = some (.iload 0, 1, 0, 0) := by decide +kernel
theorem xJ6_bitCount_0f7a4_11 : dcd mJ6_bitCount_0f7a4 11 = some (.ldc 266, 3, 0, 0) := by decide +kernel
theorem xJ6_bitCount_0f7a4_14 : dcd mJ6_bitCount_0f7a4 14 = some (.iand, 1, 0, 0) := by decide +kernel
theorem xJ6_bitCount_0f7a4_15 : dcd mJ6_bitCount_0f7a4 15 = some (.iload 0, 1, 0, 0) := by decide +kernel
theorem xJ6_bitCount_0f7a4_16 : dcd mJ6_bitCount_0f7a4 16 = some (.iconst 0, 1, 0, 2) := by decide +kernel
theorem xJ6_bitCount_0f7a4_17 : dcd mJ6_bitCount_0f7a4 17 = some (.iushr, 1, 0, 0) := by decide +kernel
theorem xJ6_bitCount_0f7a4_18 : dcd mJ6_bitCount_0f7a4 18 = some (.ldc 266, 3, 0, 0) := by decide +kernel
theorem xJ6_bitCount_0f7a4_21 : dcd mJ6_bitCount_0f7a4 21 = some (.iand, 1, 0, 0) := by decide +kernel
theorem xJ6_bitCount_0f7a4_22 : dcd mJ6_bitCount_0f7a4 22 = some (.iadd, 1, 0, 0) := by decide +kernel
theorem xJ6_bitCount_0f7a4_23 : dcd mJ6_bitCount_0f7a4 23 = some (.istore 0, 1, 0, 0) := by decide +kernel
theorem xJ6_bitCount_0f7a4_24 : dcd mJ6_bitCount_0f7a4 24 = some (.iload 0, 1, 0, 0) := by decide +kernel
theorem xJ6_bitCount_0f7a4_25 : dcd mJ6_bitCount_0f7a4 25 = some (.iload 0, 1, 0, 0) := by decide +kernel
theorem xJ6_bitCount_0f7a4_26 : dcd mJ6_bitCount_0f7a4 26 = some (.iconst 0, 1, 0, 4) := by decide +kernel
theorem xJ6_bitCount_0f7a4_27 : dcd mJ6_bitCount_0f7a4 27 = some (.iushr, 1, 0, 0) := by decide +kernel
theorem xJ6_bitCount_0f7a4_28 : dcd mJ6_bitCount_0f7a4 28 = some (.iadd, 1, 0, 0) := by decide +kernel
theorem xJ6_bitCount_0f7a4_29 : dcd mJ6_bitCount_0f7a4 29 = some (.ldc 267, 3, 0, 0) := by decide +kernel
theorem xJ6_bitCount_0f7a4_32 : dcd mJ6_bitCount_0f7a4 32 = some (.iand, 1, 0, 0) := by decide +kernel
theorem xJ6_bitCount_0f7a4_33 : dcd mJ6_bitCount_0f7a4 33 = some (.istore 0, 1, 0, 0) := by decide +kernel
theorem xJ6_bitCount_0f7a4_34 : dcd mJ6_bitCount_0f7a4 34 = some (.iload 0, 1, 0, 0) := by decide +kernel
theorem xJ6_bitCount_0f7a4_35 : dcd mJ6_bitCount_0f7a4 35 = some (.iload 0, 1, 0, 0) := by decide +kernel
theorem xJ6_bitCount_0f7a4_36 : dcd mJ6_bitCount_0f7a4 36 = some (.iconst 0, 2, 0, 8) := by decide +kernel
theorem xJ6_bitCount_0f7a4_38 : dcd mJ6_bitCount_0f7a4 38 = some (.iushr, 1, 0, 0) := by decide +kernel
theorem xJ6_bitCount_0f7a4_39 : dcd mJ6_bitCount_0f7a4 39 = some (.iadd, 1, 0, 0) := by decide +kernel
theorem xJ6_bitCount_0f7a4_40 : dcd mJ6_bitCount_0f7a4 40 = some (.istore 0, 1, 0, 0) := by decide +kernel
theorem xJ6_bitCount_0f7a4_41 : dcd mJ6_bitCount_0f7a4 41 = some (.iload 0, 1, 0, 0) := by decide +kernel
theorem xJ6_bitCount_0f7a4_42 : dcd mJ6_bitCount_0f7a4 42 = some (.iload 0, 1, 0, 0) := by decide +kernel
theorem xJ6_bitCount_0f7a4_43 : dcd mJ6_bitCount_0f7a4 43 = some (.iconst 0, 2, 0, 16) := by decide +kernel
theorem xJ6_bitCount_0f7a4_45 : dcd mJ6_bitCount_0f7a4 45 = some (.iushr, 1, 0, 0) := by decide +kernel
theorem xJ6_bitCount_0f7a4_46 : dcd mJ6_bitCount_0f7a4 46 = some (.iadd, 1, 0, 0) := by decide +kernel
theorem xJ6_bitCount_0f7a4_47 : dcd mJ6_bitCount_0f7a4 47 = some (.istore 0, 1, 0, 0) := by decide +kernel
theorem xJ6_bitCount_0f7a4_48 : dcd mJ6_bitCount_0f7a4 48 = some (.iload 0, 1, 0, 0) := by decide +kernel
theorem xJ6_bitCount_0f7a4_49 : dcd mJ6_bitCount_0f7a4 49 = some (.iconst 0, 2, 0, 63) := by decide +kernel
theorem xJ6_bitCount_0f7a4_51 : dcd mJ6_bitCount_0f7a4 51 = some (.iand, 1, 0, 0) := by decide +kernel
theorem xJ6_bitCount_0f7a4_52 : dcd mJ6_bitCount_0f7a4 52 = some (.ireturn, 1, 0, 0) := by decide +kernel

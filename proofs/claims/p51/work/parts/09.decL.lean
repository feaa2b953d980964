theorem dL_below_0 : decode cL_below 0 = .ok (.iload_n 0, 1) := by decide +kernel
theorem dL_below_1 : decode cL_below 1 = .ok (.ldc 7, 2) := by decide +kernel
theorem dL_below_3 : decode cL_below 3 = .ok (.iand, 1) := by decide +kernel
theorem dL_below_4 : decode cL_below 4 = .ok (.iload_n 1, 1) := by decide +kernel
theorem dL_below_5 : decode cL_below 5 = .ok (.irem, 1) := by decide +kernel
theorem dL_below_6 : decode cL_below 6 = .ok (.ireturn, 1) := by decide +kernel
theorem dL_cell_0 : decode cL_cell 0 = .ok (.iload_n 1, 1) := by decide +kernel
theorem dL_cell_1 : decode cL_cell 1 = .ok (.aload_n 0, 1) := by decide +kernel
theorem dL_cell_2 : decode cL_cell 2 = .ok (.arraylength, 1) := by decide +kernel
theorem dL_cell_3 : decode cL_cell 3 = .ok (.if_icmp .ge 9, 3) := by decide +kernel
theorem dL_cell_6 : decode cL_cell 6 = .ok (.aload_n 0, 1) := by decide +kernel
theorem dL_cell_7 : decode cL_cell 7 = .ok (.iload_n 1, 1) := by decide +kernel
theorem dL_cell_8 : decode cL_cell 8 = .ok (.iaload, 1) := by decide +kernel
theorem dL_cell_9 : decode cL_cell 9 = .ok (.goto 9, 3) := by decide +kernel
theorem dL_cell_12 : decode cL_cell 12 = .ok (.ldc 8, 2) := by decide +kernel
theorem dL_cell_14 : decode cL_cell 14 = .ok (.iload_n 1, 1) := by decide +kernel
theorem dL_cell_15 : decode cL_cell 15 = .ok (.iconst 3, 1) := by decide +kernel
theorem dL_cell_16 : decode cL_cell 16 = .ok (.iadd, 1) := by decide +kernel
theorem dL_cell_17 : decode cL_cell 17 = .ok (.imul, 1) := by decide +kernel
theorem dL_cell_18 : decode cL_cell 18 = .ok (.ireturn, 1) := by decide +kernel
theorem dL_act_0 : decode cL_act 0 = .ok (.aload_n 1, 1) := by decide +kernel
theorem dL_act_1 : decode cL_act 1 = .ok (.getfield 9, 3) := by decide +kernel
theorem dL_act_4 : decode cL_act 4 = .ok (.arraylength, 1) := by decide +kernel
theorem dL_act_5 : decode cL_act 5 = .ok (.istore_n 3, 1) := by decide +kernel
theorem dL_act_6 : decode cL_act 6 = .ok (.aload_n 1, 1) := by decide +kernel
theorem dL_act_7 : decode cL_act 7 = .ok (.getfield 15, 3) := by decide +kernel
theorem dL_act_10 : decode cL_act 10 = .ok (.arraylength, 1) := by decide +kernel
theorem dL_act_11 : decode cL_act 11 = .ok (.istore 4, 2) := by decide +kernel
theorem dL_act_13 : decode cL_act 13 = .ok (.iload_n 2, 1) := by decide +kernel
theorem dL_act_14 : decode cL_act 14 = .ok (.iconst 4, 1) := by decide +kernel
theorem dL_act_15 : decode cL_act 15 = .ok (.ishr, 1) := by decide +kernel
theorem dL_act_16 : decode cL_act 16 = .ok (.iload_n 3, 1) := by decide +kernel
theorem dL_act_17 : decode cL_act 17 = .ok (.invokestatic 19, 3) := by decide +kernel
theorem dL_act_20 : decode cL_act 20 = .ok (.istore 5, 2) := by decide +kernel
theorem dL_act_22 : decode cL_act 22 = .ok (.iload_n 2, 1) := by decide +kernel
theorem dL_act_23 : decode cL_act 23 = .ok (.bipush 7, 2) := by decide +kernel
theorem dL_act_25 : decode cL_act 25 = .ok (.ishr, 1) := by decide +kernel
theorem dL_act_26 : decode cL_act 26 = .ok (.iload 4, 2) := by decide +kernel
theorem dL_act_28 : decode cL_act 28 = .ok (.invokestatic 19, 3) := by decide +kernel
theorem dL_act_31 : decode cL_act 31 = .ok (.istore 6, 2) := by decide +kernel
theorem dL_act_33 : decode cL_act 33 = .ok (.iload_n 2, 1) := by decide +kernel
theorem dL_act_34 : decode cL_act 34 = .ok (.iconst 5, 1) := by decide +kernel
theorem dL_act_35 : decode cL_act 35 = .ok (.ishr, 1) := by decide +kernel
theorem dL_act_36 : decode cL_act 36 = .ok (.iload_n 2, 1) := by decide +kernel
theorem dL_act_37 : decode cL_act 37 = .ok (.bipush 9, 2) := by decide +kernel
theorem dL_act_39 : decode cL_act 39 = .ok (.ishr, 1) := by decide +kernel
theorem dL_act_40 : decode cL_act 40 = .ok (.iconst 2, 1) := by decide +kernel
theorem dL_act_41 : decode cL_act 41 = .ok (.invokestatic 19, 3) := by decide +kernel
theorem dL_act_44 : decode cL_act 44 = .ok (.ifCond .ne 9, 3) := by decide +kernel
theorem dL_act_47 : decode cL_act 47 = .ok (.sipush 199, 3) := by decide +kernel
theorem dL_act_50 : decode cL_act 50 = .ok (.goto 5, 3) := by decide +kernel
theorem dL_act_53 : decode cL_act 53 = .ok (.bipush 41, 2) := by decide +kernel
theorem dL_act_55 : decode cL_act 55 = .ok (.invokestatic 19, 3) := by decide +kernel
theorem dL_act_58 : decode cL_act 58 = .ok (.iload_n 2, 1) := by decide +kernel
theorem dL_act_59 : decode cL_act 59 = .ok (.bipush 9, 2) := by decide +kernel
theorem dL_act_61 : decode cL_act 61 = .ok (.ishr, 1) := by decide +kernel
theorem dL_act_62 : decode cL_act 62 = .ok (.iconst 2, 1) := by decide +kernel
theorem dL_act_63 : decode cL_act 63 = .ok (.invokestatic 19, 3) := by decide +kernel
theorem dL_act_66 : decode cL_act 66 = .ok (.ifCond .ne 8, 3) := by decide +kernel
theorem dL_act_69 : decode cL_act 69 = .ok (.bipush 99, 2) := by decide +kernel
theorem dL_act_71 : decode cL_act 71 = .ok (.goto 5, 3) := by decide +kernel
theorem dL_act_74 : decode cL_act 74 = .ok (.bipush 10, 2) := by decide +kernel
theorem dL_act_76 : decode cL_act 76 = .ok (.isub, 1) := by decide +kernel
theorem dL_act_77 : decode cL_act 77 = .ok (.istore 7, 2) := by decide +kernel
theorem dL_act_79 : decode cL_act 79 = .ok (.iconst 1, 1) := by decide +kernel
theorem dL_act_80 : decode cL_act 80 = .ok (.istore 8, 2) := by decide +kernel
theorem dL_act_82 : decode cL_act 82 = .ok (.iload_n 2, 1) := by decide +kernel
theorem dL_act_83 : decode cL_act 83 = .ok (.bipush 20, 2) := by decide +kernel
theorem dL_act_85 : decode cL_act 85 = .ok (.invokestatic 19, 3) := by decide +kernel
theorem dL_act_88 : decode cL_act 88 = .ok (.tableswitch 1047 0 17 #[88, 155, 155, 155, 203, 203, 203, 203, 327, 420, 523, 523, 678, 746, 818, 818, 944, 981], 88) := by decide +kernel
theorem dL_act_176 : decode cL_act 176 = .ok (.iload_n 2, 1) := by decide +kernel
theorem dL_act_177 : decode cL_act 177 = .ok (.iconst 5, 1) := by decide +kernel
theorem dL_act_178 : decode cL_act 178 = .ok (.ishr, 1) := by decide +kernel
theorem dL_act_179 : decode cL_act 179 = .ok (.iconst 5, 1) := by decide +kernel
theorem dL_act_180 : decode cL_act 180 = .ok (.invokestatic 19, 3) := by decide +kernel
theorem dL_act_183 : decode cL_act 183 = .ok (.ifCond .le 5, 3) := by decide +kernel
theorem dL_act_186 : decode cL_act 186 = .ok (.iconst 1, 1) := by decide +kernel
theorem dL_act_187 : decode cL_act 187 = .ok (.ireturn, 1) := by decide +kernel
theorem dL_act_188 : decode cL_act 188 = .ok (.iconst 1, 1) := by decide +kernel
theorem dL_act_189 : decode cL_act 189 = .ok (.iload_n 2, 1) := by decide +kernel
theorem dL_act_190 : decode cL_act 190 = .ok (.iconst 3, 1) := by decide +kernel
theorem dL_act_191 : decode cL_act 191 = .ok (.ishr, 1) := by decide +kernel
theorem dL_act_192 : decode cL_act 192 = .ok (.bipush 8, 2) := by decide +kernel
theorem dL_act_194 : decode cL_act 194 = .ok (.invokestatic 19, 3) := by decide +kernel
theorem dL_act_197 : decode cL_act 197 = .ok (.iadd, 1) := by decide +kernel
theorem dL_act_198 : decode cL_act 198 = .ok (.istore 9, 2) := by decide +kernel
theorem dL_act_200 : decode cL_act 200 = .ok (.iconst 1, 1) := by decide +kernel
theorem dL_act_201 : decode cL_act 201 = .ok (.iload_n 2, 1) := by decide +kernel
theorem dL_act_202 : decode cL_act 202 = .ok (.bipush 6, 2) := by decide +kernel
theorem dL_act_204 : decode cL_act 204 = .ok (.ishr, 1) := by decide +kernel
theorem dL_act_205 : decode cL_act 205 = .ok (.bipush 16, 2) := by decide +kernel
theorem dL_act_207 : decode cL_act 207 = .ok (.invokestatic 19, 3) := by decide +kernel
theorem dL_act_210 : decode cL_act 210 = .ok (.iadd, 1) := by decide +kernel
theorem dL_act_211 : decode cL_act 211 = .ok (.istore 10, 2) := by decide +kernel
theorem dL_act_213 : decode cL_act 213 = .ok (.aload_n 1, 1) := by decide +kernel
theorem dL_act_214 : decode cL_act 214 = .ok (.iload 9, 2) := by decide +kernel
theorem dL_act_216 : decode cL_act 216 = .ok (.iload 10, 2) := by decide +kernel
theorem dL_act_218 : decode cL_act 218 = .ok (.invokevirtual 25, 3) := by decide +kernel
theorem dL_act_221 : decode cL_act 221 = .ok (.aload_n 0, 1) := by decide +kernel
theorem dL_act_222 : decode cL_act 222 = .ok (.iload 9, 2) := by decide +kernel
theorem dL_act_224 : decode cL_act 224 = .ok (.iload 10, 2) := by decide +kernel
theorem dL_act_226 : decode cL_act 226 = .ok (.invokevirtual 29, 3) := by decide +kernel
theorem dL_act_229 : decode cL_act 229 = .ok (.iload 9, 2) := by decide +kernel
theorem dL_act_231 : decode cL_act 231 = .ok (.iload 10, 2) := by decide +kernel
theorem dL_act_233 : decode cL_act 233 = .ok (.imul, 1) := by decide +kernel
theorem dL_act_234 : decode cL_act 234 = .ok (.if_icmp .ne 7, 3) := by decide +kernel
theorem dL_act_237 : decode cL_act 237 = .ok (.iconst 1, 1) := by decide +kernel
theorem dL_act_238 : decode cL_act 238 = .ok (.goto 4, 3) := by decide +kernel
theorem dL_act_241 : decode cL_act 241 = .ok (.iconst 0, 1) := by decide +kernel
theorem dL_act_242 : decode cL_act 242 = .ok (.ireturn, 1) := by decide +kernel
theorem dL_act_243 : decode cL_act 243 = .ok (.aload_n 1, 1) := by decide +kernel
theorem dL_act_244 : decode cL_act 244 = .ok (.invokevirtual 33, 3) := by decide +kernel
theorem dL_act_247 : decode cL_act 247 = .ok (.aload_n 1, 1) := by decide +kernel
theorem dL_act_248 : decode cL_act 248 = .ok (.getfield 9, 3) := by decide +kernel
theorem dL_act_251 : decode cL_act 251 = .ok (.iload 5, 2) := by decide +kernel
theorem dL_act_253 : decode cL_act 253 = .ok (.aaload, 1) := by decide +kernel
theorem dL_act_254 : decode cL_act 254 = .ok (.iload 6, 2) := by decide +kernel
theorem dL_act_256 : decode cL_act 256 = .ok (.dup2, 1) := by decide +kernel
theorem dL_act_257 : decode cL_act 257 = .ok (.iaload, 1) := by decide +kernel
theorem dL_act_258 : decode cL_act 258 = .ok (.iload 7, 2) := by decide +kernel
theorem dL_act_260 : decode cL_act 260 = .ok (.iadd, 1) := by decide +kernel
theorem dL_act_261 : decode cL_act 261 = .ok (.iastore, 1) := by decide +kernel
theorem dL_act_262 : decode cL_act 262 = .ok (.aload_n 0, 1) := by decide +kernel
theorem dL_act_263 : decode cL_act 263 = .ok (.iload 5, 2) := by decide +kernel
theorem dL_act_265 : decode cL_act 265 = .ok (.iload 6, 2) := by decide +kernel
theorem dL_act_267 : decode cL_act 267 = .ok (.iload 7, 2) := by decide +kernel
theorem dL_act_269 : decode cL_act 269 = .ok (.invokevirtual 36, 3) := by decide +kernel
theorem dL_act_272 : decode cL_act 272 = .ok (.aload_n 1, 1) := by decide +kernel
theorem dL_act_273 : decode cL_act 273 = .ok (.getfield 9, 3) := by decide +kernel
theorem dL_act_276 : decode cL_act 276 = .ok (.iload 5, 2) := by decide +kernel
theorem dL_act_278 : decode cL_act 278 = .ok (.aaload, 1) := by decide +kernel
theorem dL_act_279 : decode cL_act 279 = .ok (.iload 6, 2) := by decide +kernel
theorem dL_act_281 : decode cL_act 281 = .ok (.iaload, 1) := by decide +kernel
theorem dL_act_282 : decode cL_act 282 = .ok (.if_icmp .ne 7, 3) := by decide +kernel
theorem dL_act_285 : decode cL_act 285 = .ok (.iconst 1, 1) := by decide +kernel
theorem dL_act_286 : decode cL_act 286 = .ok (.goto 4, 3) := by decide +kernel
theorem dL_act_289 : decode cL_act 289 = .ok (.iconst 0, 1) := by decide +kernel
theorem dL_act_290 : decode cL_act 290 = .ok (.ireturn, 1) := by decide +kernel
theorem dL_act_291 : decode cL_act 291 = .ok (.iload 5, 2) := by decide +kernel
theorem dL_act_293 : decode cL_act 293 = .ok (.iload_n 2, 1) := by decide +kernel
theorem dL_act_294 : decode cL_act 294 = .ok (.bipush 6, 2) := by decide +kernel
theorem dL_act_296 : decode cL_act 296 = .ok (.ishr, 1) := by decide +kernel
theorem dL_act_297 : decode cL_act 297 = .ok (.iload_n 3, 1) := by decide +kernel
theorem dL_act_298 : decode cL_act 298 = .ok (.iload 5, 2) := by decide +kernel
theorem dL_act_300 : decode cL_act 300 = .ok (.isub, 1) := by decide +kernel
theorem dL_act_301 : decode cL_act 301 = .ok (.invokestatic 19, 3) := by decide +kernel
theorem dL_act_304 : decode cL_act 304 = .ok (.iadd, 1) := by decide +kernel
theorem dL_act_305 : decode cL_act 305 = .ok (.istore 9, 2) := by decide +kernel
theorem dL_act_307 : decode cL_act 307 = .ok (.iload 6, 2) := by decide +kernel
theorem dL_act_309 : decode cL_act 309 = .ok (.iload_n 2, 1) := by decide +kernel
theorem dL_act_310 : decode cL_act 310 = .ok (.bipush 8, 2) := by decide +kernel
theorem dL_act_312 : decode cL_act 312 = .ok (.ishr, 1) := by decide +kernel
theorem dL_act_313 : decode cL_act 313 = .ok (.iload 4, 2) := by decide +kernel
theorem dL_act_315 : decode cL_act 315 = .ok (.iload 6, 2) := by decide +kernel
theorem dL_act_317 : decode cL_act 317 = .ok (.isub, 1) := by decide +kernel
theorem dL_act_318 : decode cL_act 318 = .ok (.invokestatic 19, 3) := by decide +kernel
theorem dL_act_321 : decode cL_act 321 = .ok (.iadd, 1) := by decide +kernel
theorem dL_act_322 : decode cL_act 322 = .ok (.istore 10, 2) := by decide +kernel
theorem dL_act_324 : decode cL_act 324 = .ok (.aload_n 1, 1) := by decide +kernel
theorem dL_act_325 : decode cL_act 325 = .ok (.invokevirtual 33, 3) := by decide +kernel
theorem dL_act_328 : decode cL_act 328 = .ok (.iload 5, 2) := by decide +kernel
theorem dL_act_330 : decode cL_act 330 = .ok (.istore 11, 2) := by decide +kernel
theorem dL_act_332 : decode cL_act 332 = .ok (.iload 11, 2) := by decide +kernel
theorem dL_act_334 : decode cL_act 334 = .ok (.iload 9, 2) := by decide +kernel
theorem dL_act_336 : decode cL_act 336 = .ok (.if_icmp .gt 41, 3) := by decide +kernel
theorem dL_act_339 : decode cL_act 339 = .ok (.iload 6, 2) := by decide +kernel
theorem dL_act_341 : decode cL_act 341 = .ok (.istore 12, 2) := by decide +kernel
theorem dL_act_343 : decode cL_act 343 = .ok (.iload 12, 2) := by decide +kernel
theorem dL_act_345 : decode cL_act 345 = .ok (.iload 10, 2) := by decide +kernel
theorem dL_act_347 : decode cL_act 347 = .ok (.if_icmp .gt 24, 3) := by decide +kernel
theorem dL_act_350 : decode cL_act 350 = .ok (.aload_n 1, 1) := by decide +kernel
theorem dL_act_351 : decode cL_act 351 = .ok (.getfield 9, 3) := by decide +kernel
theorem dL_act_354 : decode cL_act 354 = .ok (.iload 11, 2) := by decide +kernel
theorem dL_act_356 : decode cL_act 356 = .ok (.aaload, 1) := by decide +kernel
theorem dL_act_357 : decode cL_act 357 = .ok (.iload 12, 2) := by decide +kernel
theorem dL_act_359 : decode cL_act 359 = .ok (.dup2, 1) := by decide +kernel
theorem dL_act_360 : decode cL_act 360 = .ok (.iaload, 1) := by decide +kernel
theorem dL_act_361 : decode cL_act 361 = .ok (.iload 7, 2) := by decide +kernel
theorem dL_act_363 : decode cL_act 363 = .ok (.iadd, 1) := by decide +kernel
theorem dL_act_364 : decode cL_act 364 = .ok (.iastore, 1) := by decide +kernel
theorem dL_act_365 : decode cL_act 365 = .ok (.iinc 12 1, 3) := by decide +kernel
theorem dL_act_368 : decode cL_act 368 = .ok (.goto (-25), 3) := by decide +kernel
theorem dL_act_371 : decode cL_act 371 = .ok (.iinc 11 1, 3) := by decide +kernel
theorem dL_act_374 : decode cL_act 374 = .ok (.goto (-42), 3) := by decide +kernel
theorem dL_act_377 : decode cL_act 377 = .ok (.aload_n 0, 1) := by decide +kernel
theorem dL_act_378 : decode cL_act 378 = .ok (.iload 5, 2) := by decide +kernel
theorem dL_act_380 : decode cL_act 380 = .ok (.iload 6, 2) := by decide +kernel
theorem dL_act_382 : decode cL_act 382 = .ok (.iload 9, 2) := by decide +kernel
theorem dL_act_384 : decode cL_act 384 = .ok (.iload 10, 2) := by decide +kernel
theorem dL_act_386 : decode cL_act 386 = .ok (.iload 7, 2) := by decide +kernel
theorem dL_act_388 : decode cL_act 388 = .ok (.invokevirtual 40, 3) := by decide +kernel
theorem dL_act_391 : decode cL_act 391 = .ok (.iload 9, 2) := by decide +kernel
theorem dL_act_393 : decode cL_act 393 = .ok (.iload 5, 2) := by decide +kernel
theorem dL_act_395 : decode cL_act 395 = .ok (.isub, 1) := by decide +kernel
theorem dL_act_396 : decode cL_act 396 = .ok (.iconst 1, 1) := by decide +kernel
theorem dL_act_397 : decode cL_act 397 = .ok (.iadd, 1) := by decide +kernel
theorem dL_act_398 : decode cL_act 398 = .ok (.iload 10, 2) := by decide +kernel
theorem dL_act_400 : decode cL_act 400 = .ok (.iload 6, 2) := by decide +kernel
theorem dL_act_402 : decode cL_act 402 = .ok (.isub, 1) := by decide +kernel
theorem dL_act_403 : decode cL_act 403 = .ok (.iconst 1, 1) := by decide +kernel
theorem dL_act_404 : decode cL_act 404 = .ok (.iadd, 1) := by decide +kernel
theorem dL_act_405 : decode cL_act 405 = .ok (.imul, 1) := by decide +kernel
theorem dL_act_406 : decode cL_act 406 = .ok (.if_icmp .ne 7, 3) := by decide +kernel
theorem dL_act_409 : decode cL_act 409 = .ok (.iconst 1, 1) := by decide +kernel
theorem dL_act_410 : decode cL_act 410 = .ok (.goto 4, 3) := by decide +kernel
theorem dL_act_413 : decode cL_act 413 = .ok (.iconst 0, 1) := by decide +kernel
theorem dL_act_414 : decode cL_act 414 = .ok (.ireturn, 1) := by decide +kernel
theorem dL_act_415 : decode cL_act 415 = .ok (.iload_n 2, 1) := by decide +kernel
theorem dL_act_416 : decode cL_act 416 = .ok (.bipush 6, 2) := by decide +kernel
theorem dL_act_418 : decode cL_act 418 = .ok (.ishr, 1) := by decide +kernel
theorem dL_act_419 : decode cL_act 419 = .ok (.iload_n 3, 1) := by decide +kernel
theorem dL_act_420 : decode cL_act 420 = .ok (.invokestatic 19, 3) := by decide +kernel
theorem dL_act_423 : decode cL_act 423 = .ok (.istore 9, 2) := by decide +kernel
theorem dL_act_425 : decode cL_act 425 = .ok (.iconst 0, 1) := by decide +kernel
theorem dL_act_426 : decode cL_act 426 = .ok (.istore 10, 2) := by decide +kernel
theorem dL_act_428 : decode cL_act 428 = .ok (.iconst 0, 1) := by decide +kernel
theorem dL_act_429 : decode cL_act 429 = .ok (.istore 11, 2) := by decide +kernel
theorem dL_act_431 : decode cL_act 431 = .ok (.iload 11, 2) := by decide +kernel
theorem dL_act_433 : decode cL_act 433 = .ok (.iload 4, 2) := by decide +kernel
theorem dL_act_435 : decode cL_act 435 = .ok (.if_icmp .ge 42, 3) := by decide +kernel
theorem dL_act_438 : decode cL_act 438 = .ok (.iload 10, 2) := by decide +kernel
theorem dL_act_440 : decode cL_act 440 = .ok (.aload_n 1, 1) := by decide +kernel
theorem dL_act_441 : decode cL_act 441 = .ok (.getfield 9, 3) := by decide +kernel
theorem dL_act_444 : decode cL_act 444 = .ok (.iload 5, 2) := by decide +kernel
theorem dL_act_446 : decode cL_act 446 = .ok (.aaload, 1) := by decide +kernel
theorem dL_act_447 : decode cL_act 447 = .ok (.iload 11, 2) := by decide +kernel
theorem dL_act_449 : decode cL_act 449 = .ok (.iaload, 1) := by decide +kernel
theorem dL_act_450 : decode cL_act 450 = .ok (.aload_n 1, 1) := by decide +kernel
theorem dL_act_451 : decode cL_act 451 = .ok (.getfield 9, 3) := by decide +kernel
theorem dL_act_454 : decode cL_act 454 = .ok (.iload 9, 2) := by decide +kernel
theorem dL_act_456 : decode cL_act 456 = .ok (.aaload, 1) := by decide +kernel
theorem dL_act_457 : decode cL_act 457 = .ok (.iload 11, 2) := by decide +kernel
theorem dL_act_459 : decode cL_act 459 = .ok (.iaload, 1) := by decide +kernel
theorem dL_act_460 : decode cL_act 460 = .ok (.if_icmp .ne 7, 3) := by decide +kernel
theorem dL_act_463 : decode cL_act 463 = .ok (.iconst 0, 1) := by decide +kernel
theorem dL_act_464 : decode cL_act 464 = .ok (.goto 4, 3) := by decide +kernel
theorem dL_act_467 : decode cL_act 467 = .ok (.iconst 1, 1) := by decide +kernel
theorem dL_act_468 : decode cL_act 468 = .ok (.iadd, 1) := by decide +kernel
theorem dL_act_469 : decode cL_act 469 = .ok (.istore 10, 2) := by decide +kernel
theorem dL_act_471 : decode cL_act 471 = .ok (.iinc 11 1, 3) := by decide +kernel
theorem dL_act_474 : decode cL_act 474 = .ok (.goto (-43), 3) := by decide +kernel
theorem dL_act_477 : decode cL_act 477 = .ok (.aload_n 1, 1) := by decide +kernel
theorem dL_act_478 : decode cL_act 478 = .ok (.invokevirtual 33, 3) := by decide +kernel
theorem dL_act_481 : decode cL_act 481 = .ok (.aload_n 1, 1) := by decide +kernel
theorem dL_act_482 : decode cL_act 482 = .ok (.iload 5, 2) := by decide +kernel
theorem dL_act_484 : decode cL_act 484 = .ok (.iload 9, 2) := by decide +kernel
theorem dL_act_486 : decode cL_act 486 = .ok (.invokevirtual 44, 3) := by decide +kernel
theorem dL_act_489 : decode cL_act 489 = .ok (.aload_n 0, 1) := by decide +kernel
theorem dL_act_490 : decode cL_act 490 = .ok (.iload 5, 2) := by decide +kernel
theorem dL_act_492 : decode cL_act 492 = .ok (.iload 9, 2) := by decide +kernel
theorem dL_act_494 : decode cL_act 494 = .ok (.invokevirtual 47, 3) := by decide +kernel
theorem dL_act_497 : decode cL_act 497 = .ok (.iload 10, 2) := by decide +kernel
theorem dL_act_499 : decode cL_act 499 = .ok (.if_icmp .ne 7, 3) := by decide +kernel
theorem dL_act_502 : decode cL_act 502 = .ok (.iconst 1, 1) := by decide +kernel
theorem dL_act_503 : decode cL_act 503 = .ok (.goto 4, 3) := by decide +kernel
theorem dL_act_506 : decode cL_act 506 = .ok (.iconst 0, 1) := by decide +kernel
theorem dL_act_507 : decode cL_act 507 = .ok (.ireturn, 1) := by decide +kernel
theorem dL_act_508 : decode cL_act 508 = .ok (.iconst 0, 1) := by decide +kernel
theorem dL_act_509 : decode cL_act 509 = .ok (.istore 9, 2) := by decide +kernel
theorem dL_act_511 : decode cL_act 511 = .ok (.iload 4, 2) := by decide +kernel
theorem dL_act_513 : decode cL_act 513 = .ok (.newarray .int, 2) := by decide +kernel
theorem dL_act_515 : decode cL_act 515 = .ok (.astore 10, 2) := by decide +kernel
theorem dL_act_517 : decode cL_act 517 = .ok (.iconst 0, 1) := by decide +kernel
theorem dL_act_518 : decode cL_act 518 = .ok (.istore 11, 2) := by decide +kernel
theorem dL_act_520 : decode cL_act 520 = .ok (.iload 11, 2) := by decide +kernel
theorem dL_act_522 : decode cL_act 522 = .ok (.iload 4, 2) := by decide +kernel
theorem dL_act_524 : decode cL_act 524 = .ok (.if_icmp .ge 57, 3) := by decide +kernel
theorem dL_act_527 : decode cL_act 527 = .ok (.aload 10, 2) := by decide +kernel
theorem dL_act_529 : decode cL_act 529 = .ok (.iload 11, 2) := by decide +kernel
theorem dL_act_531 : decode cL_act 531 = .ok (.aload_n 1, 1) := by decide +kernel
theorem dL_act_532 : decode cL_act 532 = .ok (.getfield 9, 3) := by decide +kernel
theorem dL_act_535 : decode cL_act 535 = .ok (.iload 5, 2) := by decide +kernel
theorem dL_act_537 : decode cL_act 537 = .ok (.aaload, 1) := by decide +kernel
theorem dL_act_538 : decode cL_act 538 = .ok (.iload 4, 2) := by decide +kernel
theorem dL_act_540 : decode cL_act 540 = .ok (.iconst 1, 1) := by decide +kernel
theorem dL_act_541 : decode cL_act 541 = .ok (.isub, 1) := by decide +kernel
theorem dL_act_542 : decode cL_act 542 = .ok (.iload 11, 2) := by decide +kernel
theorem dL_act_544 : decode cL_act 544 = .ok (.isub, 1) := by decide +kernel
theorem dL_act_545 : decode cL_act 545 = .ok (.iaload, 1) := by decide +kernel
theorem dL_act_546 : decode cL_act 546 = .ok (.iastore, 1) := by decide +kernel
theorem dL_act_547 : decode cL_act 547 = .ok (.iload 9, 2) := by decide +kernel
theorem dL_act_549 : decode cL_act 549 = .ok (.aload 10, 2) := by decide +kernel
theorem dL_act_551 : decode cL_act 551 = .ok (.iload 11, 2) := by decide +kernel
theorem dL_act_553 : decode cL_act 553 = .ok (.iaload, 1) := by decide +kernel
theorem dL_act_554 : decode cL_act 554 = .ok (.aload_n 1, 1) := by decide +kernel
theorem dL_act_555 : decode cL_act 555 = .ok (.getfield 9, 3) := by decide +kernel
theorem dL_act_558 : decode cL_act 558 = .ok (.iload 5, 2) := by decide +kernel
theorem dL_act_560 : decode cL_act 560 = .ok (.aaload, 1) := by decide +kernel
theorem dL_act_561 : decode cL_act 561 = .ok (.iload 11, 2) := by decide +kernel
theorem dL_act_563 : decode cL_act 563 = .ok (.iaload, 1) := by decide +kernel
theorem dL_act_564 : decode cL_act 564 = .ok (.if_icmp .ne 7, 3) := by decide +kernel
theorem dL_act_567 : decode cL_act 567 = .ok (.iconst 0, 1) := by decide +kernel
theorem dL_act_568 : decode cL_act 568 = .ok (.goto 4, 3) := by decide +kernel
theorem dL_act_571 : decode cL_act 571 = .ok (.iconst 1, 1) := by decide +kernel
theorem dL_act_572 : decode cL_act 572 = .ok (.iadd, 1) := by decide +kernel
theorem dL_act_573 : decode cL_act 573 = .ok (.istore 9, 2) := by decide +kernel
theorem dL_act_575 : decode cL_act 575 = .ok (.iinc 11 1, 3) := by decide +kernel
theorem dL_act_578 : decode cL_act 578 = .ok (.goto (-58), 3) := by decide +kernel
theorem dL_act_581 : decode cL_act 581 = .ok (.aload_n 1, 1) := by decide +kernel
theorem dL_act_582 : decode cL_act 582 = .ok (.invokevirtual 33, 3) := by decide +kernel
theorem dL_act_585 : decode cL_act 585 = .ok (.aload_n 1, 1) := by decide +kernel
theorem dL_act_586 : decode cL_act 586 = .ok (.getfield 9, 3) := by decide +kernel
theorem dL_act_589 : decode cL_act 589 = .ok (.iload 5, 2) := by decide +kernel
theorem dL_act_591 : decode cL_act 591 = .ok (.aload 10, 2) := by decide +kernel
theorem dL_act_593 : decode cL_act 593 = .ok (.aastore, 1) := by decide +kernel
theorem dL_act_594 : decode cL_act 594 = .ok (.aload_n 0, 1) := by decide +kernel
theorem dL_act_595 : decode cL_act 595 = .ok (.iload 5, 2) := by decide +kernel
theorem dL_act_597 : decode cL_act 597 = .ok (.invokevirtual 49, 3) := by decide +kernel
theorem dL_act_600 : decode cL_act 600 = .ok (.iload 9, 2) := by decide +kernel
theorem dL_act_602 : decode cL_act 602 = .ok (.if_icmp .ne 7, 3) := by decide +kernel
theorem dL_act_605 : decode cL_act 605 = .ok (.iconst 1, 1) := by decide +kernel
theorem dL_act_606 : decode cL_act 606 = .ok (.goto 4, 3) := by decide +kernel
theorem dL_act_609 : decode cL_act 609 = .ok (.iconst 0, 1) := by decide +kernel
theorem dL_act_610 : decode cL_act 610 = .ok (.ireturn, 1) := by decide +kernel
theorem dL_act_611 : decode cL_act 611 = .ok (.iconst 1, 1) := by decide +kernel
theorem dL_act_612 : decode cL_act 612 = .ok (.iload_n 2, 1) := by decide +kernel
theorem dL_act_613 : decode cL_act 613 = .ok (.bipush 6, 2) := by decide +kernel
theorem dL_act_615 : decode cL_act 615 = .ok (.ishr, 1) := by decide +kernel
theorem dL_act_616 : decode cL_act 616 = .ok (.iload_n 2, 1) := by decide +kernel
theorem dL_act_617 : decode cL_act 617 = .ok (.bipush 9, 2) := by decide +kernel
theorem dL_act_619 : decode cL_act 619 = .ok (.ishr, 1) := by decide +kernel
theorem dL_act_620 : decode cL_act 620 = .ok (.iconst 2, 1) := by decide +kernel
theorem dL_act_621 : decode cL_act 621 = .ok (.invokestatic 19, 3) := by decide +kernel
theorem dL_act_624 : decode cL_act 624 = .ok (.ifCond .ne 9, 3) := by decide +kernel
theorem dL_act_627 : decode cL_act 627 = .ok (.sipush 999, 3) := by decide +kernel
theorem dL_act_630 : decode cL_act 630 = .ok (.goto 5, 3) := by decide +kernel
theorem dL_act_633 : decode cL_act 633 = .ok (.bipush 60, 2) := by decide +kernel
theorem dL_act_635 : decode cL_act 635 = .ok (.invokestatic 19, 3) := by decide +kernel
theorem dL_act_638 : decode cL_act 638 = .ok (.iadd, 1) := by decide +kernel
theorem dL_act_639 : decode cL_act 639 = .ok (.istore 9, 2) := by decide +kernel
theorem dL_act_641 : decode cL_act 641 = .ok (.iconst 0, 1) := by decide +kernel
theorem dL_act_642 : decode cL_act 642 = .ok (.istore 10, 2) := by decide +kernel
theorem dL_act_644 : decode cL_act 644 = .ok (.aload_n 1, 1) := by decide +kernel
theorem dL_act_645 : decode cL_act 645 = .ok (.invokevirtual 33, 3) := by decide +kernel
theorem dL_act_648 : decode cL_act 648 = .ok (.iconst 0, 1) := by decide +kernel
theorem dL_act_649 : decode cL_act 649 = .ok (.istore 11, 2) := by decide +kernel
theorem dL_act_651 : decode cL_act 651 = .ok (.iload 11, 2) := by decide +kernel
theorem dL_act_653 : decode cL_act 653 = .ok (.iload 4, 2) := by decide +kernel
theorem dL_act_655 : decode cL_act 655 = .ok (.if_icmp .ge 92, 3) := by decide +kernel
theorem dL_act_658 : decode cL_act 658 = .ok (.iload 10, 2) := by decide +kernel
theorem dL_act_660 : decode cL_act 660 = .ok (.iload 9, 2) := by decide +kernel
theorem dL_act_662 : decode cL_act 662 = .ok (.if_icmp .ge 85, 3) := by decide +kernel
theorem dL_act_665 : decode cL_act 665 = .ok (.aload_n 1, 1) := by decide +kernel
theorem dL_act_666 : decode cL_act 666 = .ok (.getfield 9, 3) := by decide +kernel
theorem dL_act_669 : decode cL_act 669 = .ok (.iload 5, 2) := by decide +kernel
theorem dL_act_671 : decode cL_act 671 = .ok (.aaload, 1) := by decide +kernel
theorem dL_act_672 : decode cL_act 672 = .ok (.iload 11, 2) := by decide +kernel
theorem dL_act_674 : decode cL_act 674 = .ok (.iaload, 1) := by decide +kernel
theorem dL_act_675 : decode cL_act 675 = .ok (.ifCond .gt 6, 3) := by decide +kernel
theorem dL_act_678 : decode cL_act 678 = .ok (.goto 63, 3) := by decide +kernel
theorem dL_act_681 : decode cL_act 681 = .ok (.aload_n 1, 1) := by decide +kernel
theorem dL_act_682 : decode cL_act 682 = .ok (.getfield 9, 3) := by decide +kernel
theorem dL_act_685 : decode cL_act 685 = .ok (.iload 5, 2) := by decide +kernel
theorem dL_act_687 : decode cL_act 687 = .ok (.aaload, 1) := by decide +kernel
theorem dL_act_688 : decode cL_act 688 = .ok (.iload 11, 2) := by decide +kernel
theorem dL_act_690 : decode cL_act 690 = .ok (.iaload, 1) := by decide +kernel
theorem dL_act_691 : decode cL_act 691 = .ok (.iload 9, 2) := by decide +kernel
theorem dL_act_693 : decode cL_act 693 = .ok (.iload 10, 2) := by decide +kernel
theorem dL_act_695 : decode cL_act 695 = .ok (.isub, 1) := by decide +kernel
theorem dL_act_696 : decode cL_act 696 = .ok (.if_icmp .ge 16, 3) := by decide +kernel
theorem dL_act_699 : decode cL_act 699 = .ok (.aload_n 1, 1) := by decide +kernel
theorem dL_act_700 : decode cL_act 700 = .ok (.getfield 9, 3) := by decide +kernel
theorem dL_act_703 : decode cL_act 703 = .ok (.iload 5, 2) := by decide +kernel
theorem dL_act_705 : decode cL_act 705 = .ok (.aaload, 1) := by decide +kernel
theorem dL_act_706 : decode cL_act 706 = .ok (.iload 11, 2) := by decide +kernel
theorem dL_act_708 : decode cL_act 708 = .ok (.iaload, 1) := by decide +kernel
theorem dL_act_709 : decode cL_act 709 = .ok (.goto 8, 3) := by decide +kernel
theorem dL_act_712 : decode cL_act 712 = .ok (.iload 9, 2) := by decide +kernel
theorem dL_act_714 : decode cL_act 714 = .ok (.iload 10, 2) := by decide +kernel
theorem dL_act_716 : decode cL_act 716 = .ok (.isub, 1) := by decide +kernel
theorem dL_act_717 : decode cL_act 717 = .ok (.istore 12, 2) := by decide +kernel
theorem dL_act_719 : decode cL_act 719 = .ok (.aload_n 1, 1) := by decide +kernel
theorem dL_act_720 : decode cL_act 720 = .ok (.getfield 9, 3) := by decide +kernel
theorem dL_act_723 : decode cL_act 723 = .ok (.iload 5, 2) := by decide +kernel
theorem dL_act_725 : decode cL_act 725 = .ok (.aaload, 1) := by decide +kernel
theorem dL_act_726 : decode cL_act 726 = .ok (.iload 11, 2) := by decide +kernel
theorem dL_act_728 : decode cL_act 728 = .ok (.dup2, 1) := by decide +kernel
theorem dL_act_729 : decode cL_act 729 = .ok (.iaload, 1) := by decide +kernel
theorem dL_act_730 : decode cL_act 730 = .ok (.iload 12, 2) := by decide +kernel
theorem dL_act_732 : decode cL_act 732 = .ok (.isub, 1) := by decide +kernel
theorem dL_act_733 : decode cL_act 733 = .ok (.iastore, 1) := by decide +kernel
theorem dL_act_734 : decode cL_act 734 = .ok (.iload 10, 2) := by decide +kernel
theorem dL_act_736 : decode cL_act 736 = .ok (.iload 12, 2) := by decide +kernel
theorem dL_act_738 : decode cL_act 738 = .ok (.iadd, 1) := by decide +kernel
theorem dL_act_739 : decode cL_act 739 = .ok (.istore 10, 2) := by decide +kernel
theorem dL_act_741 : decode cL_act 741 = .ok (.iinc 11 1, 3) := by decide +kernel
theorem dL_act_744 : decode cL_act 744 = .ok (.goto (-93), 3) := by decide +kernel
theorem dL_act_747 : decode cL_act 747 = .ok (.aload_n 0, 1) := by decide +kernel
theorem dL_act_748 : decode cL_act 748 = .ok (.iload 5, 2) := by decide +kernel
theorem dL_act_750 : decode cL_act 750 = .ok (.iload 9, 2) := by decide +kernel
theorem dL_act_752 : decode cL_act 752 = .ok (.invokevirtual 53, 3) := by decide +kernel
theorem dL_act_755 : decode cL_act 755 = .ok (.iload 10, 2) := by decide +kernel
theorem dL_act_757 : decode cL_act 757 = .ok (.if_icmp .ne 7, 3) := by decide +kernel
theorem dL_act_760 : decode cL_act 760 = .ok (.iconst 1, 1) := by decide +kernel
theorem dL_act_761 : decode cL_act 761 = .ok (.goto 4, 3) := by decide +kernel
theorem dL_act_764 : decode cL_act 764 = .ok (.iconst 0, 1) := by decide +kernel
theorem dL_act_765 : decode cL_act 765 = .ok (.ireturn, 1) := by decide +kernel
theorem dL_act_766 : decode cL_act 766 = .ok (.aload_n 1, 1) := by decide +kernel
theorem dL_act_767 : decode cL_act 767 = .ok (.getfield 56, 3) := by decide +kernel
theorem dL_act_770 : decode cL_act 770 = .ok (.arraylength, 1) := by decide +kernel
theorem dL_act_771 : decode cL_act 771 = .ok (.bipush 12, 2) := by decide +kernel
theorem dL_act_773 : decode cL_act 773 = .ok (.if_icmp .ge 7, 3) := by decide +kernel
theorem dL_act_776 : decode cL_act 776 = .ok (.iconst 1, 1) := by decide +kernel
theorem dL_act_777 : decode cL_act 777 = .ok (.goto 4, 3) := by decide +kernel
theorem dL_act_780 : decode cL_act 780 = .ok (.iconst 0, 1) := by decide +kernel
theorem dL_act_781 : decode cL_act 781 = .ok (.istore 8, 2) := by decide +kernel
theorem dL_act_783 : decode cL_act 783 = .ok (.aload_n 1, 1) := by decide +kernel
theorem dL_act_784 : decode cL_act 784 = .ok (.getfield 56, 3) := by decide +kernel
theorem dL_act_787 : decode cL_act 787 = .ok (.arraylength, 1) := by decide +kernel
theorem dL_act_788 : decode cL_act 788 = .ok (.istore 9, 2) := by decide +kernel
theorem dL_act_790 : decode cL_act 790 = .ok (.iload 8, 2) := by decide +kernel
theorem dL_act_792 : decode cL_act 792 = .ok (.ifCond .eq 22, 3) := by decide +kernel
theorem dL_act_795 : decode cL_act 795 = .ok (.aload_n 1, 1) := by decide +kernel
theorem dL_act_796 : decode cL_act 796 = .ok (.aload_n 1, 1) := by decide +kernel
theorem dL_act_797 : decode cL_act 797 = .ok (.getfield 56, 3) := by decide +kernel
theorem dL_act_800 : decode cL_act 800 = .ok (.aload_n 1, 1) := by decide +kernel
theorem dL_act_801 : decode cL_act 801 = .ok (.getfield 9, 3) := by decide +kernel
theorem dL_act_804 : decode cL_act 804 = .ok (.invokestatic 60, 3) := by decide +kernel
theorem dL_act_807 : decode cL_act 807 = .ok (.iconst 0, 1) := by decide +kernel
theorem dL_act_808 : decode cL_act 808 = .ok (.invokestatic 64, 3) := by decide +kernel
theorem dL_act_811 : decode cL_act 811 = .ok (.putfield 56, 3) := by decide +kernel
theorem dL_act_814 : decode cL_act 814 = .ok (.aload_n 0, 1) := by decide +kernel
theorem dL_act_815 : decode cL_act 815 = .ok (.invokevirtual 68, 3) := by decide +kernel
theorem dL_act_818 : decode cL_act 818 = .ok (.iload 9, 2) := by decide +kernel
theorem dL_act_820 : decode cL_act 820 = .ok (.if_icmp .ne 12, 3) := by decide +kernel
theorem dL_act_823 : decode cL_act 823 = .ok (.iload 8, 2) := by decide +kernel
theorem dL_act_825 : decode cL_act 825 = .ok (.ifCond .eq 7, 3) := by decide +kernel
theorem dL_act_828 : decode cL_act 828 = .ok (.iconst 1, 1) := by decide +kernel
theorem dL_act_829 : decode cL_act 829 = .ok (.goto 4, 3) := by decide +kernel
theorem dL_act_832 : decode cL_act 832 = .ok (.iconst 0, 1) := by decide +kernel
theorem dL_act_833 : decode cL_act 833 = .ok (.ireturn, 1) := by decide +kernel
theorem dL_act_834 : decode cL_act 834 = .ok (.aload_n 1, 1) := by decide +kernel
theorem dL_act_835 : decode cL_act 835 = .ok (.getfield 56, 3) := by decide +kernel
theorem dL_act_838 : decode cL_act 838 = .ok (.arraylength, 1) := by decide +kernel
theorem dL_act_839 : decode cL_act 839 = .ok (.ifCond .ne 5, 3) := by decide +kernel
theorem dL_act_842 : decode cL_act 842 = .ok (.iconst 1, 1) := by decide +kernel
theorem dL_act_843 : decode cL_act 843 = .ok (.ireturn, 1) := by decide +kernel
theorem dL_act_844 : decode cL_act 844 = .ok (.iload_n 2, 1) := by decide +kernel
theorem dL_act_845 : decode cL_act 845 = .ok (.bipush 6, 2) := by decide +kernel
theorem dL_act_847 : decode cL_act 847 = .ok (.ishr, 1) := by decide +kernel
theorem dL_act_848 : decode cL_act 848 = .ok (.aload_n 1, 1) := by decide +kernel
theorem dL_act_849 : decode cL_act 849 = .ok (.getfield 56, 3) := by decide +kernel
theorem dL_act_852 : decode cL_act 852 = .ok (.arraylength, 1) := by decide +kernel
theorem dL_act_853 : decode cL_act 853 = .ok (.invokestatic 19, 3) := by decide +kernel
theorem dL_act_856 : decode cL_act 856 = .ok (.istore 9, 2) := by decide +kernel
theorem dL_act_858 : decode cL_act 858 = .ok (.aload_n 1, 1) := by decide +kernel
theorem dL_act_859 : decode cL_act 859 = .ok (.aload_n 1, 1) := by decide +kernel
theorem dL_act_860 : decode cL_act 860 = .ok (.getfield 56, 3) := by decide +kernel
theorem dL_act_863 : decode cL_act 863 = .ok (.iload 9, 2) := by decide +kernel
theorem dL_act_865 : decode cL_act 865 = .ok (.aaload, 1) := by decide +kernel
theorem dL_act_866 : decode cL_act 866 = .ok (.invokevirtual 72, 3) := by decide +kernel
theorem dL_act_869 : decode cL_act 869 = .ok (.istore 10, 2) := by decide +kernel
theorem dL_act_871 : decode cL_act 871 = .ok (.aload_n 1, 1) := by decide +kernel
theorem dL_act_872 : decode cL_act 872 = .ok (.invokevirtual 33, 3) := by decide +kernel
theorem dL_act_875 : decode cL_act 875 = .ok (.aload_n 1, 1) := by decide +kernel
theorem dL_act_876 : decode cL_act 876 = .ok (.aload_n 1, 1) := by decide +kernel
theorem dL_act_877 : decode cL_act 877 = .ok (.getfield 56, 3) := by decide +kernel
theorem dL_act_880 : decode cL_act 880 = .ok (.iload 9, 2) := by decide +kernel
theorem dL_act_882 : decode cL_act 882 = .ok (.aaload, 1) := by decide +kernel
theorem dL_act_883 : decode cL_act 883 = .ok (.invokestatic 60, 3) := by decide +kernel
theorem dL_act_886 : decode cL_act 886 = .ok (.putfield 9, 3) := by decide +kernel
theorem dL_act_889 : decode cL_act 889 = .ok (.aload_n 0, 1) := by decide +kernel
theorem dL_act_890 : decode cL_act 890 = .ok (.iload 9, 2) := by decide +kernel
theorem dL_act_892 : decode cL_act 892 = .ok (.invokevirtual 76, 3) := by decide +kernel
theorem dL_act_895 : decode cL_act 895 = .ok (.iload 10, 2) := by decide +kernel
theorem dL_act_897 : decode cL_act 897 = .ok (.if_icmp .ne 7, 3) := by decide +kernel
theorem dL_act_900 : decode cL_act 900 = .ok (.iconst 1, 1) := by decide +kernel
theorem dL_act_901 : decode cL_act 901 = .ok (.goto 4, 3) := by decide +kernel
theorem dL_act_904 : decode cL_act 904 = .ok (.iconst 0, 1) := by decide +kernel
theorem dL_act_905 : decode cL_act 905 = .ok (.ireturn, 1) := by decide +kernel
theorem dL_act_906 : decode cL_act 906 = .ok (.aload_n 1, 1) := by decide +kernel
theorem dL_act_907 : decode cL_act 907 = .ok (.getfield 79, 3) := by decide +kernel
theorem dL_act_910 : decode cL_act 910 = .ok (.arraylength, 1) := by decide +kernel
theorem dL_act_911 : decode cL_act 911 = .ok (.ifCond .le 7, 3) := by decide +kernel
theorem dL_act_914 : decode cL_act 914 = .ok (.iconst 1, 1) := by decide +kernel
theorem dL_act_915 : decode cL_act 915 = .ok (.goto 4, 3) := by decide +kernel
theorem dL_act_918 : decode cL_act 918 = .ok (.iconst 0, 1) := by decide +kernel
theorem dL_act_919 : decode cL_act 919 = .ok (.istore 8, 2) := by decide +kernel
theorem dL_act_921 : decode cL_act 921 = .ok (.iload 8, 2) := by decide +kernel
theorem dL_act_923 : decode cL_act 923 = .ok (.ifCond .ne 16, 3) := by decide +kernel
theorem dL_act_926 : decode cL_act 926 = .ok (.aload_n 0, 1) := by decide +kernel
theorem dL_act_927 : decode cL_act 927 = .ok (.invokevirtual 82, 3) := by decide +kernel
theorem dL_act_930 : decode cL_act 930 = .ok (.ifCond .ge 7, 3) := by decide +kernel
theorem dL_act_933 : decode cL_act 933 = .ok (.iconst 1, 1) := by decide +kernel
theorem dL_act_934 : decode cL_act 934 = .ok (.goto 4, 3) := by decide +kernel
theorem dL_act_937 : decode cL_act 937 = .ok (.iconst 0, 1) := by decide +kernel
theorem dL_act_938 : decode cL_act 938 = .ok (.ireturn, 1) := by decide +kernel
theorem dL_act_939 : decode cL_act 939 = .ok (.aload_n 1, 1) := by decide +kernel
theorem dL_act_940 : decode cL_act 940 = .ok (.getfield 79, 3) := by decide +kernel
theorem dL_act_943 : decode cL_act 943 = .ok (.aload_n 1, 1) := by decide +kernel
theorem dL_act_944 : decode cL_act 944 = .ok (.getfield 79, 3) := by decide +kernel
theorem dL_act_947 : decode cL_act 947 = .ok (.arraylength, 1) := by decide +kernel
theorem dL_act_948 : decode cL_act 948 = .ok (.iconst 1, 1) := by decide +kernel
theorem dL_act_949 : decode cL_act 949 = .ok (.isub, 1) := by decide +kernel
theorem dL_act_950 : decode cL_act 950 = .ok (.aaload, 1) := by decide +kernel
theorem dL_act_951 : decode cL_act 951 = .ok (.astore 9, 2) := by decide +kernel
theorem dL_act_953 : decode cL_act 953 = .ok (.aload_n 1, 1) := by decide +kernel
theorem dL_act_954 : decode cL_act 954 = .ok (.aload 9, 2) := by decide +kernel
theorem dL_act_956 : decode cL_act 956 = .ok (.invokevirtual 72, 3) := by decide +kernel
theorem dL_act_959 : decode cL_act 959 = .ok (.istore 10, 2) := by decide +kernel
theorem dL_act_961 : decode cL_act 961 = .ok (.aload_n 1, 1) := by decide +kernel
theorem dL_act_962 : decode cL_act 962 = .ok (.getfield 79, 3) := by decide +kernel
theorem dL_act_965 : decode cL_act 965 = .ok (.arraylength, 1) := by decide +kernel
theorem dL_act_966 : decode cL_act 966 = .ok (.iconst 1, 1) := by decide +kernel
theorem dL_act_967 : decode cL_act 967 = .ok (.isub, 1) := by decide +kernel
theorem dL_act_968 : decode cL_act 968 = .ok (.anewarray 85, 3) := by decide +kernel
theorem dL_act_971 : decode cL_act 971 = .ok (.astore 11, 2) := by decide +kernel
theorem dL_act_973 : decode cL_act 973 = .ok (.iconst 0, 1) := by decide +kernel
theorem dL_act_974 : decode cL_act 974 = .ok (.istore 12, 2) := by decide +kernel
theorem dL_act_976 : decode cL_act 976 = .ok (.iload 12, 2) := by decide +kernel
theorem dL_act_978 : decode cL_act 978 = .ok (.aload 11, 2) := by decide +kernel
theorem dL_act_980 : decode cL_act 980 = .ok (.arraylength, 1) := by decide +kernel
theorem dL_act_981 : decode cL_act 981 = .ok (.if_icmp .ge 21, 3) := by decide +kernel
theorem dL_act_984 : decode cL_act 984 = .ok (.aload 11, 2) := by decide +kernel
theorem dL_act_986 : decode cL_act 986 = .ok (.iload 12, 2) := by decide +kernel
theorem dL_act_988 : decode cL_act 988 = .ok (.aload_n 1, 1) := by decide +kernel
theorem dL_act_989 : decode cL_act 989 = .ok (.getfield 79, 3) := by decide +kernel
theorem dL_act_992 : decode cL_act 992 = .ok (.iload 12, 2) := by decide +kernel
theorem dL_act_994 : decode cL_act 994 = .ok (.aaload, 1) := by decide +kernel
theorem dL_act_995 : decode cL_act 995 = .ok (.aastore, 1) := by decide +kernel
theorem dL_act_996 : decode cL_act 996 = .ok (.iinc 12 1, 3) := by decide +kernel
theorem dL_act_999 : decode cL_act 999 = .ok (.goto (-23), 3) := by decide +kernel
theorem dL_act_1002 : decode cL_act 1002 = .ok (.aload_n 1, 1) := by decide +kernel
theorem dL_act_1003 : decode cL_act 1003 = .ok (.aload 11, 2) := by decide +kernel
theorem dL_act_1005 : decode cL_act 1005 = .ok (.putfield 79, 3) := by decide +kernel
theorem dL_act_1008 : decode cL_act 1008 = .ok (.aload_n 1, 1) := by decide +kernel
theorem dL_act_1009 : decode cL_act 1009 = .ok (.aload 9, 2) := by decide +kernel
theorem dL_act_1011 : decode cL_act 1011 = .ok (.invokestatic 60, 3) := by decide +kernel
theorem dL_act_1014 : decode cL_act 1014 = .ok (.putfield 9, 3) := by decide +kernel
theorem dL_act_1017 : decode cL_act 1017 = .ok (.aload_n 0, 1) := by decide +kernel
theorem dL_act_1018 : decode cL_act 1018 = .ok (.invokevirtual 82, 3) := by decide +kernel
theorem dL_act_1021 : decode cL_act 1021 = .ok (.iload 10, 2) := by decide +kernel
theorem dL_act_1023 : decode cL_act 1023 = .ok (.if_icmp .ne 7, 3) := by decide +kernel
theorem dL_act_1026 : decode cL_act 1026 = .ok (.iconst 1, 1) := by decide +kernel
theorem dL_act_1027 : decode cL_act 1027 = .ok (.goto 4, 3) := by decide +kernel
theorem dL_act_1030 : decode cL_act 1030 = .ok (.iconst 0, 1) := by decide +kernel
theorem dL_act_1031 : decode cL_act 1031 = .ok (.ireturn, 1) := by decide +kernel
theorem dL_act_1032 : decode cL_act 1032 = .ok (.aload_n 1, 1) := by decide +kernel
theorem dL_act_1033 : decode cL_act 1033 = .ok (.getfield 86, 3) := by decide +kernel
theorem dL_act_1036 : decode cL_act 1036 = .ok (.istore 9, 2) := by decide +kernel
theorem dL_act_1038 : decode cL_act 1038 = .ok (.aload_n 1, 1) := by decide +kernel
theorem dL_act_1039 : decode cL_act 1039 = .ok (.iload_n 2, 1) := by decide +kernel
theorem dL_act_1040 : decode cL_act 1040 = .ok (.iconst 5, 1) := by decide +kernel
theorem dL_act_1041 : decode cL_act 1041 = .ok (.ishr, 1) := by decide +kernel
theorem dL_act_1042 : decode cL_act 1042 = .ok (.bipush 10, 2) := by decide +kernel
theorem dL_act_1044 : decode cL_act 1044 = .ok (.invokestatic 19, 3) := by decide +kernel
theorem dL_act_1047 : decode cL_act 1047 = .ok (.putfield 86, 3) := by decide +kernel
theorem dL_act_1050 : decode cL_act 1050 = .ok (.aload_n 0, 1) := by decide +kernel
theorem dL_act_1051 : decode cL_act 1051 = .ok (.aload_n 1, 1) := by decide +kernel
theorem dL_act_1052 : decode cL_act 1052 = .ok (.getfield 86, 3) := by decide +kernel
theorem dL_act_1055 : decode cL_act 1055 = .ok (.invokevirtual 90, 3) := by decide +kernel
theorem dL_act_1058 : decode cL_act 1058 = .ok (.iload 9, 2) := by decide +kernel
theorem dL_act_1060 : decode cL_act 1060 = .ok (.if_icmp .ne 7, 3) := by decide +kernel
theorem dL_act_1063 : decode cL_act 1063 = .ok (.iconst 1, 1) := by decide +kernel
theorem dL_act_1064 : decode cL_act 1064 = .ok (.goto 4, 3) := by decide +kernel
theorem dL_act_1067 : decode cL_act 1067 = .ok (.iconst 0, 1) := by decide +kernel
theorem dL_act_1068 : decode cL_act 1068 = .ok (.ireturn, 1) := by decide +kernel
theorem dL_act_1069 : decode cL_act 1069 = .ok (.aload_n 1, 1) := by decide +kernel
theorem dL_act_1070 : decode cL_act 1070 = .ok (.getfield 15, 3) := by decide +kernel
theorem dL_act_1073 : decode cL_act 1073 = .ok (.iload 6, 2) := by decide +kernel
theorem dL_act_1075 : decode cL_act 1075 = .ok (.iaload, 1) := by decide +kernel
theorem dL_act_1076 : decode cL_act 1076 = .ok (.istore 9, 2) := by decide +kernel
theorem dL_act_1078 : decode cL_act 1078 = .ok (.aload_n 1, 1) := by decide +kernel
theorem dL_act_1079 : decode cL_act 1079 = .ok (.getfield 15, 3) := by decide +kernel
theorem dL_act_1082 : decode cL_act 1082 = .ok (.iload 6, 2) := by decide +kernel
theorem dL_act_1084 : decode cL_act 1084 = .ok (.iload_n 2, 1) := by decide +kernel
theorem dL_act_1085 : decode cL_act 1085 = .ok (.bipush 6, 2) := by decide +kernel
theorem dL_act_1087 : decode cL_act 1087 = .ok (.ishr, 1) := by decide +kernel
theorem dL_act_1088 : decode cL_act 1088 = .ok (.iload_n 2, 1) := by decide +kernel
theorem dL_act_1089 : decode cL_act 1089 = .ok (.bipush 8, 2) := by decide +kernel
theorem dL_act_1091 : decode cL_act 1091 = .ok (.ishr, 1) := by decide +kernel
theorem dL_act_1092 : decode cL_act 1092 = .ok (.iconst 3, 1) := by decide +kernel
theorem dL_act_1093 : decode cL_act 1093 = .ok (.invokestatic 19, 3) := by decide +kernel
theorem dL_act_1096 : decode cL_act 1096 = .ok (.ifCond .ne 9, 3) := by decide +kernel
theorem dL_act_1099 : decode cL_act 1099 = .ok (.sipush 1000, 3) := by decide +kernel
theorem dL_act_1102 : decode cL_act 1102 = .ok (.goto 5, 3) := by decide +kernel
theorem dL_act_1105 : decode cL_act 1105 = .ok (.bipush 60, 2) := by decide +kernel
theorem dL_act_1107 : decode cL_act 1107 = .ok (.invokestatic 19, 3) := by decide +kernel
theorem dL_act_1110 : decode cL_act 1110 = .ok (.iastore, 1) := by decide +kernel
theorem dL_act_1111 : decode cL_act 1111 = .ok (.aload_n 0, 1) := by decide +kernel
theorem dL_act_1112 : decode cL_act 1112 = .ok (.iload 6, 2) := by decide +kernel
theorem dL_act_1114 : decode cL_act 1114 = .ok (.aload_n 1, 1) := by decide +kernel
theorem dL_act_1115 : decode cL_act 1115 = .ok (.getfield 15, 3) := by decide +kernel
theorem dL_act_1118 : decode cL_act 1118 = .ok (.iload 6, 2) := by decide +kernel
theorem dL_act_1120 : decode cL_act 1120 = .ok (.iaload, 1) := by decide +kernel
theorem dL_act_1121 : decode cL_act 1121 = .ok (.invokevirtual 93, 3) := by decide +kernel
theorem dL_act_1124 : decode cL_act 1124 = .ok (.iload 9, 2) := by decide +kernel
theorem dL_act_1126 : decode cL_act 1126 = .ok (.if_icmp .ne 7, 3) := by decide +kernel
theorem dL_act_1129 : decode cL_act 1129 = .ok (.iconst 1, 1) := by decide +kernel
theorem dL_act_1130 : decode cL_act 1130 = .ok (.goto 4, 3) := by decide +kernel
theorem dL_act_1133 : decode cL_act 1133 = .ok (.iconst 0, 1) := by decide +kernel
theorem dL_act_1134 : decode cL_act 1134 = .ok (.ireturn, 1) := by decide +kernel
theorem dL_act_1135 : decode cL_act 1135 = .ok (.iconst 1, 1) := by decide +kernel
theorem dL_act_1136 : decode cL_act 1136 = .ok (.iload_n 2, 1) := by decide +kernel
theorem dL_act_1137 : decode cL_act 1137 = .ok (.bipush 6, 2) := by decide +kernel
theorem dL_act_1139 : decode cL_act 1139 = .ok (.ishr, 1) := by decide +kernel
theorem dL_act_1140 : decode cL_act 1140 = .ok (.iload_n 2, 1) := by decide +kernel
theorem dL_act_1141 : decode cL_act 1141 = .ok (.bipush 8, 2) := by decide +kernel
theorem dL_act_1143 : decode cL_act 1143 = .ok (.ishr, 1) := by decide +kernel
theorem dL_act_1144 : decode cL_act 1144 = .ok (.iconst 4, 1) := by decide +kernel
theorem dL_act_1145 : decode cL_act 1145 = .ok (.invokestatic 19, 3) := by decide +kernel
theorem dL_act_1148 : decode cL_act 1148 = .ok (.ifCond .ne 8, 3) := by decide +kernel
theorem dL_act_1151 : decode cL_act 1151 = .ok (.bipush 40, 2) := by decide +kernel
theorem dL_act_1153 : decode cL_act 1153 = .ok (.goto 4, 3) := by decide +kernel
theorem dL_act_1156 : decode cL_act 1156 = .ok (.iconst 4, 1) := by decide +kernel
theorem dL_act_1157 : decode cL_act 1157 = .ok (.invokestatic 19, 3) := by decide +kernel
theorem dL_act_1160 : decode cL_act 1160 = .ok (.iadd, 1) := by decide +kernel
theorem dL_act_1161 : decode cL_act 1161 = .ok (.istore 9, 2) := by decide +kernel
theorem dL_act_1163 : decode cL_act 1163 = .ok (.aload_n 1, 1) := by decide +kernel
theorem dL_act_1164 : decode cL_act 1164 = .ok (.invokevirtual 33, 3) := by decide +kernel
theorem dL_act_1167 : decode cL_act 1167 = .ok (.aload_n 0, 1) := by decide +kernel
theorem dL_act_1168 : decode cL_act 1168 = .ok (.iload 9, 2) := by decide +kernel
theorem dL_act_1170 : decode cL_act 1170 = .ok (.invokevirtual 96, 3) := by decide +kernel
theorem dL_act_1173 : decode cL_act 1173 = .ok (.aload_n 1, 1) := by decide +kernel
theorem dL_act_1174 : decode cL_act 1174 = .ok (.iload 9, 2) := by decide +kernel
theorem dL_act_1176 : decode cL_act 1176 = .ok (.invokevirtual 99, 3) := by decide +kernel
theorem dL_act_1179 : decode cL_act 1179 = .ok (.if_icmp .ne 7, 3) := by decide +kernel
theorem dL_act_1182 : decode cL_act 1182 = .ok (.iconst 1, 1) := by decide +kernel
theorem dL_act_1183 : decode cL_act 1183 = .ok (.goto 4, 3) := by decide +kernel
theorem dL_act_1186 : decode cL_act 1186 = .ok (.iconst 0, 1) := by decide +kernel
theorem dL_act_1187 : decode cL_act 1187 = .ok (.ireturn, 1) := by decide +kernel
theorem dL_act_1188 : decode cL_act 1188 = .ok (.astore 9, 2) := by decide +kernel
theorem dL_act_1190 : decode cL_act 1190 = .ok (.iload 8, 2) := by decide +kernel
theorem dL_act_1192 : decode cL_act 1192 = .ok (.ifCond .ne 7, 3) := by decide +kernel
theorem dL_act_1195 : decode cL_act 1195 = .ok (.iconst 1, 1) := by decide +kernel
theorem dL_act_1196 : decode cL_act 1196 = .ok (.goto 4, 3) := by decide +kernel
theorem dL_act_1199 : decode cL_act 1199 = .ok (.iconst 0, 1) := by decide +kernel
theorem dL_act_1200 : decode cL_act 1200 = .ok (.ireturn, 1) := by decide +kernel
theorem dL_build_0 : decode cL_build 0 = .ok (.new 10, 3) := by decide +kernel
theorem dL_build_3 : decode cL_build 3 = .ok (.dup, 1) := by decide +kernel
theorem dL_build_4 : decode cL_build 4 = .ok (.invokespecial 104, 3) := by decide +kernel
theorem dL_build_7 : decode cL_build 7 = .ok (.astore_n 2, 1) := by decide +kernel
theorem dL_build_8 : decode cL_build 8 = .ok (.iconst 1, 1) := by decide +kernel
theorem dL_build_9 : decode cL_build 9 = .ok (.aload_n 1, 1) := by decide +kernel
theorem dL_build_10 : decode cL_build 10 = .ok (.iconst 0, 1) := by decide +kernel
theorem dL_build_11 : decode cL_build 11 = .ok (.invokestatic 105, 3) := by decide +kernel
theorem dL_build_14 : decode cL_build 14 = .ok (.bipush 8, 2) := by decide +kernel
theorem dL_build_16 : decode cL_build 16 = .ok (.invokestatic 19, 3) := by decide +kernel
theorem dL_build_19 : decode cL_build 19 = .ok (.iadd, 1) := by decide +kernel
theorem dL_build_20 : decode cL_build 20 = .ok (.istore_n 3, 1) := by decide +kernel
theorem dL_build_21 : decode cL_build 21 = .ok (.iconst 1, 1) := by decide +kernel
theorem dL_build_22 : decode cL_build 22 = .ok (.aload_n 1, 1) := by decide +kernel
theorem dL_build_23 : decode cL_build 23 = .ok (.iconst 0, 1) := by decide +kernel
theorem dL_build_24 : decode cL_build 24 = .ok (.invokestatic 105, 3) := by decide +kernel
theorem dL_build_27 : decode cL_build 27 = .ok (.iconst 4, 1) := by decide +kernel
theorem dL_build_28 : decode cL_build 28 = .ok (.ishr, 1) := by decide +kernel
theorem dL_build_29 : decode cL_build 29 = .ok (.bipush 16, 2) := by decide +kernel
theorem dL_build_31 : decode cL_build 31 = .ok (.invokestatic 19, 3) := by decide +kernel
theorem dL_build_34 : decode cL_build 34 = .ok (.iadd, 1) := by decide +kernel
theorem dL_build_35 : decode cL_build 35 = .ok (.istore 4, 2) := by decide +kernel
theorem dL_build_37 : decode cL_build 37 = .ok (.aload_n 2, 1) := by decide +kernel
theorem dL_build_38 : decode cL_build 38 = .ok (.iload_n 3, 1) := by decide +kernel
theorem dL_build_39 : decode cL_build 39 = .ok (.iload 4, 2) := by decide +kernel
theorem dL_build_41 : decode cL_build 41 = .ok (.invokevirtual 25, 3) := by decide +kernel
theorem dL_build_44 : decode cL_build 44 = .ok (.aload_n 0, 1) := by decide +kernel
theorem dL_build_45 : decode cL_build 45 = .ok (.iload_n 3, 1) := by decide +kernel
theorem dL_build_46 : decode cL_build 46 = .ok (.iload 4, 2) := by decide +kernel
theorem dL_build_48 : decode cL_build 48 = .ok (.invokevirtual 29, 3) := by decide +kernel
theorem dL_build_51 : decode cL_build 51 = .ok (.iload_n 3, 1) := by decide +kernel
theorem dL_build_52 : decode cL_build 52 = .ok (.iload 4, 2) := by decide +kernel
theorem dL_build_54 : decode cL_build 54 = .ok (.imul, 1) := by decide +kernel
theorem dL_build_55 : decode cL_build 55 = .ok (.if_icmp .eq 5, 3) := by decide +kernel
theorem dL_build_58 : decode cL_build 58 = .ok (.aconst_null, 1) := by decide +kernel
theorem dL_build_59 : decode cL_build 59 = .ok (.areturn, 1) := by decide +kernel
theorem dL_build_60 : decode cL_build 60 = .ok (.bipush 6, 2) := by decide +kernel
theorem dL_build_62 : decode cL_build 62 = .ok (.aload_n 1, 1) := by decide +kernel
theorem dL_build_63 : decode cL_build 63 = .ok (.iconst 0, 1) := by decide +kernel
theorem dL_build_64 : decode cL_build 64 = .ok (.invokestatic 105, 3) := by decide +kernel
theorem dL_build_67 : decode cL_build 67 = .ok (.bipush 7, 2) := by decide +kernel
theorem dL_build_69 : decode cL_build 69 = .ok (.ishr, 1) := by decide +kernel
theorem dL_build_70 : decode cL_build 70 = .ok (.bipush 24, 2) := by decide +kernel
theorem dL_build_72 : decode cL_build 72 = .ok (.invokestatic 19, 3) := by decide +kernel
theorem dL_build_75 : decode cL_build 75 = .ok (.iadd, 1) := by decide +kernel
theorem dL_build_76 : decode cL_build 76 = .ok (.istore 5, 2) := by decide +kernel
theorem dL_build_78 : decode cL_build 78 = .ok (.iconst 0, 1) := by decide +kernel
theorem dL_build_79 : decode cL_build 79 = .ok (.istore 6, 2) := by decide +kernel
theorem dL_build_81 : decode cL_build 81 = .ok (.iload 6, 2) := by decide +kernel
theorem dL_build_83 : decode cL_build 83 = .ok (.iload 5, 2) := by decide +kernel
theorem dL_build_85 : decode cL_build 85 = .ok (.if_icmp .ge 81, 3) := by decide +kernel
theorem dL_build_88 : decode cL_build 88 = .ok (.aload_n 1, 1) := by decide +kernel
theorem dL_build_89 : decode cL_build 89 = .ok (.iconst 1, 1) := by decide +kernel
theorem dL_build_90 : decode cL_build 90 = .ok (.iload 6, 2) := by decide +kernel
theorem dL_build_92 : decode cL_build 92 = .ok (.bipush 15, 2) := by decide +kernel
theorem dL_build_94 : decode cL_build 94 = .ok (.irem, 1) := by decide +kernel
theorem dL_build_95 : decode cL_build 95 = .ok (.iadd, 1) := by decide +kernel
theorem dL_build_96 : decode cL_build 96 = .ok (.invokestatic 105, 3) := by decide +kernel
theorem dL_build_99 : decode cL_build 99 = .ok (.iload 6, 2) := by decide +kernel
theorem dL_build_101 : decode cL_build 101 = .ok (.bipush 15, 2) := by decide +kernel
theorem dL_build_103 : decode cL_build 103 = .ok (.idiv, 1) := by decide +kernel
theorem dL_build_104 : decode cL_build 104 = .ok (.iconst 3, 1) := by decide +kernel
theorem dL_build_105 : decode cL_build 105 = .ok (.imul, 1) := by decide +kernel
theorem dL_build_106 : decode cL_build 106 = .ok (.ishr, 1) := by decide +kernel
theorem dL_build_107 : decode cL_build 107 = .ok (.bipush 37, 2) := by decide +kernel
theorem dL_build_109 : decode cL_build 109 = .ok (.iload 6, 2) := by decide +kernel
theorem dL_build_111 : decode cL_build 111 = .ok (.imul, 1) := by decide +kernel
theorem dL_build_112 : decode cL_build 112 = .ok (.iadd, 1) := by decide +kernel
theorem dL_build_113 : decode cL_build 113 = .ok (.istore 7, 2) := by decide +kernel
theorem dL_build_115 : decode cL_build 115 = .ok (.aload_n 0, 1) := by decide +kernel
theorem dL_build_116 : decode cL_build 116 = .ok (.aload_n 2, 1) := by decide +kernel
theorem dL_build_117 : decode cL_build 117 = .ok (.iload 6, 2) := by decide +kernel
theorem dL_build_119 : decode cL_build 119 = .ok (.iconst 4, 1) := by decide +kernel
theorem dL_build_120 : decode cL_build 120 = .ok (.irem, 1) := by decide +kernel
theorem dL_build_121 : decode cL_build 121 = .ok (.iconst 3, 1) := by decide +kernel
theorem dL_build_122 : decode cL_build 122 = .ok (.if_icmp .ge 28, 3) := by decide +kernel
theorem dL_build_125 : decode cL_build 125 = .ok (.iload 7, 2) := by decide +kernel
theorem dL_build_127 : decode cL_build 127 = .ok (.iload 7, 2) := by decide +kernel
theorem dL_build_129 : decode cL_build 129 = .ok (.bipush 20, 2) := by decide +kernel
theorem dL_build_131 : decode cL_build 131 = .ok (.invokestatic 19, 3) := by decide +kernel
theorem dL_build_134 : decode cL_build 134 = .ok (.isub, 1) := by decide +kernel
theorem dL_build_135 : decode cL_build 135 = .ok (.iconst 1, 1) := by decide +kernel
theorem dL_build_136 : decode cL_build 136 = .ok (.iadd, 1) := by decide +kernel
theorem dL_build_137 : decode cL_build 137 = .ok (.iload 7, 2) := by decide +kernel
theorem dL_build_139 : decode cL_build 139 = .ok (.iconst 5, 1) := by decide +kernel
theorem dL_build_140 : decode cL_build 140 = .ok (.ishr, 1) := by decide +kernel
theorem dL_build_141 : decode cL_build 141 = .ok (.bipush 7, 2) := by decide +kernel
theorem dL_build_143 : decode cL_build 143 = .ok (.invokestatic 19, 3) := by decide +kernel
theorem dL_build_146 : decode cL_build 146 = .ok (.iadd, 1) := by decide +kernel
theorem dL_build_147 : decode cL_build 147 = .ok (.goto 5, 3) := by decide +kernel
theorem dL_build_150 : decode cL_build 150 = .ok (.iload 7, 2) := by decide +kernel
theorem dL_build_152 : decode cL_build 152 = .ok (.invokestatic 109, 3) := by decide +kernel
theorem dL_build_155 : decode cL_build 155 = .ok (.ifCond .ne 5, 3) := by decide +kernel
theorem dL_build_158 : decode cL_build 158 = .ok (.aconst_null, 1) := by decide +kernel
theorem dL_build_159 : decode cL_build 159 = .ok (.areturn, 1) := by decide +kernel
theorem dL_build_160 : decode cL_build 160 = .ok (.iinc 6 1, 3) := by decide +kernel
theorem dL_build_163 : decode cL_build 163 = .ok (.goto (-82), 3) := by decide +kernel
theorem dL_build_166 : decode cL_build 166 = .ok (.aload_n 2, 1) := by decide +kernel
theorem dL_build_167 : decode cL_build 167 = .ok (.areturn, 1) := by decide +kernel
theorem dL_law_0 : decode cL_law 0 = .ok (.new 30, 3) := by decide +kernel
theorem dL_law_3 : decode cL_law 3 = .ok (.dup, 1) := by decide +kernel
theorem dL_law_4 : decode cL_law 4 = .ok (.invokespecial 113, 3) := by decide +kernel
theorem dL_law_7 : decode cL_law 7 = .ok (.astore_n 1, 1) := by decide +kernel
theorem dL_law_8 : decode cL_law 8 = .ok (.aload_n 1, 1) := by decide +kernel
theorem dL_law_9 : decode cL_law 9 = .ok (.aload_n 0, 1) := by decide +kernel
theorem dL_law_10 : decode cL_law 10 = .ok (.invokestatic 114, 3) := by decide +kernel
theorem dL_law_13 : decode cL_law 13 = .ok (.astore_n 2, 1) := by decide +kernel
theorem dL_law_14 : decode cL_law 14 = .ok (.aload_n 2, 1) := by decide +kernel
theorem dL_law_15 : decode cL_law 15 = .ok (.ifnonnull 5, 3) := by decide +kernel
theorem dL_law_18 : decode cL_law 18 = .ok (.iconst 0, 1) := by decide +kernel
theorem dL_law_19 : decode cL_law 19 = .ok (.ireturn, 1) := by decide +kernel
theorem dL_law_20 : decode cL_law 20 = .ok (.iconst 0, 1) := by decide +kernel
theorem dL_law_21 : decode cL_law 21 = .ok (.istore_n 3, 1) := by decide +kernel
theorem dL_law_22 : decode cL_law 22 = .ok (.iload_n 3, 1) := by decide +kernel
theorem dL_law_23 : decode cL_law 23 = .ok (.iconst 4, 1) := by decide +kernel
theorem dL_law_24 : decode cL_law 24 = .ok (.if_icmp .ge 1331, 3) := by decide +kernel
theorem dL_law_27 : decode cL_law 27 = .ok (.aload_n 0, 1) := by decide +kernel
theorem dL_law_28 : decode cL_law 28 = .ok (.iload_n 3, 1) := by decide +kernel
theorem dL_law_29 : decode cL_law 29 = .ok (.invokestatic 105, 3) := by decide +kernel
theorem dL_law_32 : decode cL_law 32 = .ok (.iconst 2, 1) := by decide +kernel
theorem dL_law_33 : decode cL_law 33 = .ok (.ishr, 1) := by decide +kernel
theorem dL_law_34 : decode cL_law 34 = .ok (.bipush 53, 2) := by decide +kernel
theorem dL_law_36 : decode cL_law 36 = .ok (.iload_n 3, 1) := by decide +kernel
theorem dL_law_37 : decode cL_law 37 = .ok (.imul, 1) := by decide +kernel
theorem dL_law_38 : decode cL_law 38 = .ok (.iadd, 1) := by decide +kernel
theorem dL_law_39 : decode cL_law 39 = .ok (.istore 4, 2) := by decide +kernel
theorem dL_law_41 : decode cL_law 41 = .ok (.iconst 0, 1) := by decide +kernel
theorem dL_law_42 : decode cL_law 42 = .ok (.istore 5, 2) := by decide +kernel
theorem dL_law_44 : decode cL_law 44 = .ok (.iload 5, 2) := by decide +kernel
theorem dL_law_46 : decode cL_law 46 = .ok (.iconst 4, 1) := by decide +kernel
theorem dL_law_47 : decode cL_law 47 = .ok (.if_icmp .ge 32, 3) := by decide +kernel
theorem dL_law_50 : decode cL_law 50 = .ok (.aload_n 1, 1) := by decide +kernel
theorem dL_law_51 : decode cL_law 51 = .ok (.aload_n 2, 1) := by decide +kernel
theorem dL_law_52 : decode cL_law 52 = .ok (.iload 4, 2) := by decide +kernel
theorem dL_law_54 : decode cL_law 54 = .ok (.iconst 3, 1) := by decide +kernel
theorem dL_law_55 : decode cL_law 55 = .ok (.iload 5, 2) := by decide +kernel
theorem dL_law_57 : decode cL_law 57 = .ok (.imul, 1) := by decide +kernel
theorem dL_law_58 : decode cL_law 58 = .ok (.ishr, 1) := by decide +kernel
theorem dL_law_59 : decode cL_law 59 = .ok (.bipush 29, 2) := by decide +kernel
theorem dL_law_61 : decode cL_law 61 = .ok (.iload 5, 2) := by decide +kernel
theorem dL_law_63 : decode cL_law 63 = .ok (.imul, 1) := by decide +kernel
theorem dL_law_64 : decode cL_law 64 = .ok (.iadd, 1) := by decide +kernel
theorem dL_law_65 : decode cL_law 65 = .ok (.invokestatic 109, 3) := by decide +kernel
theorem dL_law_68 : decode cL_law 68 = .ok (.ifCond .ne 5, 3) := by decide +kernel
theorem dL_law_71 : decode cL_law 71 = .ok (.iconst 0, 1) := by decide +kernel
theorem dL_law_72 : decode cL_law 72 = .ok (.ireturn, 1) := by decide +kernel
theorem dL_law_73 : decode cL_law 73 = .ok (.iinc 5 1, 3) := by decide +kernel
theorem dL_law_76 : decode cL_law 76 = .ok (.goto (-32), 3) := by decide +kernel
theorem dL_law_79 : decode cL_law 79 = .ok (.aload_n 1, 1) := by decide +kernel
theorem dL_law_80 : decode cL_law 80 = .ok (.invokevirtual 118, 3) := by decide +kernel
theorem dL_law_83 : decode cL_law 83 = .ok (.lstore 5, 2) := by decide +kernel
theorem dL_law_85 : decode cL_law 85 = .ok (.aload_n 1, 1) := by decide +kernel
theorem dL_law_86 : decode cL_law 86 = .ok (.invokevirtual 122, 3) := by decide +kernel
theorem dL_law_89 : decode cL_law 89 = .ok (.istore 7, 2) := by decide +kernel
theorem dL_law_91 : decode cL_law 91 = .ok (.aload_n 1, 1) := by decide +kernel
theorem dL_law_92 : decode cL_law 92 = .ok (.invokevirtual 125, 3) := by decide +kernel
theorem dL_law_95 : decode cL_law 95 = .ok (.istore 8, 2) := by decide +kernel
theorem dL_law_97 : decode cL_law 97 = .ok (.iload 7, 2) := by decide +kernel
theorem dL_law_99 : decode cL_law 99 = .ok (.iload 8, 2) := by decide +kernel
theorem dL_law_101 : decode cL_law 101 = .ok (.imul, 1) := by decide +kernel
theorem dL_law_102 : decode cL_law 102 = .ok (.istore 9, 2) := by decide +kernel
theorem dL_law_104 : decode cL_law 104 = .ok (.iload 4, 2) := by decide +kernel
theorem dL_law_106 : decode cL_law 106 = .ok (.iconst 3, 1) := by decide +kernel
theorem dL_law_107 : decode cL_law 107 = .ok (.ishr, 1) := by decide +kernel
theorem dL_law_108 : decode cL_law 108 = .ok (.iload 7, 2) := by decide +kernel
theorem dL_law_110 : decode cL_law 110 = .ok (.invokestatic 19, 3) := by decide +kernel
theorem dL_law_113 : decode cL_law 113 = .ok (.istore 10, 2) := by decide +kernel
theorem dL_law_115 : decode cL_law 115 = .ok (.iload 4, 2) := by decide +kernel
theorem dL_law_117 : decode cL_law 117 = .ok (.iconst 5, 1) := by decide +kernel
theorem dL_law_118 : decode cL_law 118 = .ok (.ishr, 1) := by decide +kernel
theorem dL_law_119 : decode cL_law 119 = .ok (.iload 8, 2) := by decide +kernel
theorem dL_law_121 : decode cL_law 121 = .ok (.invokestatic 19, 3) := by decide +kernel
theorem dL_law_124 : decode cL_law 124 = .ok (.istore 11, 2) := by decide +kernel
theorem dL_law_126 : decode cL_law 126 = .ok (.lconst 0, 1) := by decide +kernel
theorem dL_law_127 : decode cL_law 127 = .ok (.lstore 12, 2) := by decide +kernel
theorem dL_law_129 : decode cL_law 129 = .ok (.lconst 0, 1) := by decide +kernel
theorem dL_law_130 : decode cL_law 130 = .ok (.lstore 14, 2) := by decide +kernel
theorem dL_law_132 : decode cL_law 132 = .ok (.iconst 0, 1) := by decide +kernel
theorem dL_law_133 : decode cL_law 133 = .ok (.istore 16, 2) := by decide +kernel
theorem dL_law_135 : decode cL_law 135 = .ok (.iconst 0, 1) := by decide +kernel
theorem dL_law_136 : decode cL_law 136 = .ok (.istore 17, 2) := by decide +kernel
theorem dL_law_138 : decode cL_law 138 = .ok (.iload 17, 2) := by decide +kernel
theorem dL_law_140 : decode cL_law 140 = .ok (.iload 7, 2) := by decide +kernel
theorem dL_law_142 : decode cL_law 142 = .ok (.if_icmp .ge 200, 3) := by decide +kernel
theorem dL_law_145 : decode cL_law 145 = .ok (.lload 12, 2) := by decide +kernel
theorem dL_law_147 : decode cL_law 147 = .ok (.aload_n 1, 1) := by decide +kernel
theorem dL_law_148 : decode cL_law 148 = .ok (.iload 17, 2) := by decide +kernel
theorem dL_law_150 : decode cL_law 150 = .ok (.invokevirtual 128, 3) := by decide +kernel
theorem dL_law_153 : decode cL_law 153 = .ok (.ladd, 1) := by decide +kernel
theorem dL_law_154 : decode cL_law 154 = .ok (.lstore 12, 2) := by decide +kernel
theorem dL_law_156 : decode cL_law 156 = .ok (.aload_n 1, 1) := by decide +kernel
theorem dL_law_157 : decode cL_law 157 = .ok (.iload 17, 2) := by decide +kernel
theorem dL_law_159 : decode cL_law 159 = .ok (.iconst 0, 1) := by decide +kernel
theorem dL_law_160 : decode cL_law 160 = .ok (.iload 17, 2) := by decide +kernel
theorem dL_law_162 : decode cL_law 162 = .ok (.iload 8, 2) := by decide +kernel
theorem dL_law_164 : decode cL_law 164 = .ok (.iconst 1, 1) := by decide +kernel
theorem dL_law_165 : decode cL_law 165 = .ok (.isub, 1) := by decide +kernel
theorem dL_law_166 : decode cL_law 166 = .ok (.invokevirtual 132, 3) := by decide +kernel
theorem dL_law_169 : decode cL_law 169 = .ok (.istore 18, 2) := by decide +kernel
theorem dL_law_171 : decode cL_law 171 = .ok (.iload 16, 2) := by decide +kernel
theorem dL_law_173 : decode cL_law 173 = .ok (.iload 18, 2) := by decide +kernel
theorem dL_law_175 : decode cL_law 175 = .ok (.iadd, 1) := by decide +kernel
theorem dL_law_176 : decode cL_law 176 = .ok (.istore 16, 2) := by decide +kernel
theorem dL_law_178 : decode cL_law 178 = .ok (.aload_n 1, 1) := by decide +kernel
theorem dL_law_179 : decode cL_law 179 = .ok (.iload 17, 2) := by decide +kernel
theorem dL_law_181 : decode cL_law 181 = .ok (.invokevirtual 136, 3) := by decide +kernel
theorem dL_law_184 : decode cL_law 184 = .ok (.iload 18, 2) := by decide +kernel
theorem dL_law_186 : decode cL_law 186 = .ok (.if_icmp .gt 73, 3) := by decide +kernel
theorem dL_law_189 : decode cL_law 189 = .ok (.aload_n 1, 1) := by decide +kernel
theorem dL_law_190 : decode cL_law 190 = .ok (.iload 17, 2) := by decide +kernel
theorem dL_law_192 : decode cL_law 192 = .ok (.invokevirtual 136, 3) := by decide +kernel
theorem dL_law_195 : decode cL_law 195 = .ok (.ifCond .lt 64, 3) := by decide +kernel
theorem dL_law_198 : decode cL_law 198 = .ok (.iload 18, 2) := by decide +kernel
theorem dL_law_200 : decode cL_law 200 = .ok (.aload_n 1, 1) := by decide +kernel
theorem dL_law_201 : decode cL_law 201 = .ok (.aload_n 1, 1) := by decide +kernel
theorem dL_law_202 : decode cL_law 202 = .ok (.invokevirtual 139, 3) := by decide +kernel
theorem dL_law_205 : decode cL_law 205 = .ok (.iconst 0, 1) := by decide +kernel
theorem dL_law_206 : decode cL_law 206 = .ok (.aload_n 1, 1) := by decide +kernel
theorem dL_law_207 : decode cL_law 207 = .ok (.invokevirtual 139, 3) := by decide +kernel
theorem dL_law_210 : decode cL_law 210 = .ok (.iload 8, 2) := by decide +kernel
theorem dL_law_212 : decode cL_law 212 = .ok (.iconst 1, 1) := by decide +kernel
theorem dL_law_213 : decode cL_law 213 = .ok (.isub, 1) := by decide +kernel
theorem dL_law_214 : decode cL_law 214 = .ok (.invokevirtual 132, 3) := by decide +kernel
theorem dL_law_217 : decode cL_law 217 = .ok (.if_icmp .gt 42, 3) := by decide +kernel
theorem dL_law_220 : decode cL_law 220 = .ok (.aload_n 1, 1) := by decide +kernel
theorem dL_law_221 : decode cL_law 221 = .ok (.iload 17, 2) := by decide +kernel
theorem dL_law_223 : decode cL_law 223 = .ok (.invokevirtual 142, 3) := by decide +kernel
theorem dL_law_226 : decode cL_law 226 = .ok (.aload_n 1, 1) := by decide +kernel
theorem dL_law_227 : decode cL_law 227 = .ok (.iload 17, 2) := by decide +kernel
theorem dL_law_229 : decode cL_law 229 = .ok (.invokevirtual 128, 3) := by decide +kernel
theorem dL_law_232 : decode cL_law 232 = .ok (.lcmp, 1) := by decide +kernel
theorem dL_law_233 : decode cL_law 233 = .ok (.ifCond .lt 26, 3) := by decide +kernel
theorem dL_law_236 : decode cL_law 236 = .ok (.aload_n 1, 1) := by decide +kernel
theorem dL_law_237 : decode cL_law 237 = .ok (.iload 17, 2) := by decide +kernel
theorem dL_law_239 : decode cL_law 239 = .ok (.invokevirtual 142, 3) := by decide +kernel
theorem dL_law_242 : decode cL_law 242 = .ok (.aload_n 1, 1) := by decide +kernel
theorem dL_law_243 : decode cL_law 243 = .ok (.iload 17, 2) := by decide +kernel
theorem dL_law_245 : decode cL_law 245 = .ok (.aload_n 1, 1) := by decide +kernel
theorem dL_law_246 : decode cL_law 246 = .ok (.iload 17, 2) := by decide +kernel
theorem dL_law_248 : decode cL_law 248 = .ok (.invokevirtual 145, 3) := by decide +kernel
theorem dL_law_251 : decode cL_law 251 = .ok (.invokevirtual 148, 3) := by decide +kernel
theorem dL_law_254 : decode cL_law 254 = .ok (.i2l, 1) := by decide +kernel
theorem dL_law_255 : decode cL_law 255 = .ok (.lcmp, 1) := by decide +kernel
theorem dL_law_256 : decode cL_law 256 = .ok (.ifCond .ge 5, 3) := by decide +kernel
theorem dL_law_259 : decode cL_law 259 = .ok (.iconst 0, 1) := by decide +kernel
theorem dL_law_260 : decode cL_law 260 = .ok (.ireturn, 1) := by decide +kernel
theorem dL_law_261 : decode cL_law 261 = .ok (.iconst 0, 1) := by decide +kernel
theorem dL_law_262 : decode cL_law 262 = .ok (.istore 19, 2) := by decide +kernel
theorem dL_law_264 : decode cL_law 264 = .ok (.iload 19, 2) := by decide +kernel
theorem dL_law_266 : decode cL_law 266 = .ok (.iload 8, 2) := by decide +kernel
theorem dL_law_268 : decode cL_law 268 = .ok (.if_icmp .ge 68, 3) := by decide +kernel
theorem dL_law_271 : decode cL_law 271 = .ok (.aload_n 1, 1) := by decide +kernel
theorem dL_law_272 : decode cL_law 272 = .ok (.iload 17, 2) := by decide +kernel
theorem dL_law_274 : decode cL_law 274 = .ok (.iload 19, 2) := by decide +kernel
theorem dL_law_276 : decode cL_law 276 = .ok (.invokevirtual 148, 3) := by decide +kernel
theorem dL_law_279 : decode cL_law 279 = .ok (.aload_n 1, 1) := by decide +kernel
theorem dL_law_280 : decode cL_law 280 = .ok (.iload 17, 2) := by decide +kernel
theorem dL_law_282 : decode cL_law 282 = .ok (.aload_n 1, 1) := by decide +kernel
theorem dL_law_283 : decode cL_law 283 = .ok (.iload 17, 2) := by decide +kernel
theorem dL_law_285 : decode cL_law 285 = .ok (.invokevirtual 145, 3) := by decide +kernel
theorem dL_law_288 : decode cL_law 288 = .ok (.invokevirtual 148, 3) := by decide +kernel
theorem dL_law_291 : decode cL_law 291 = .ok (.if_icmp .gt 37, 3) := by decide +kernel
theorem dL_law_294 : decode cL_law 294 = .ok (.iload 19, 2) := by decide +kernel
theorem dL_law_296 : decode cL_law 296 = .ok (.aload_n 1, 1) := by decide +kernel
theorem dL_law_297 : decode cL_law 297 = .ok (.iload 17, 2) := by decide +kernel
theorem dL_law_299 : decode cL_law 299 = .ok (.invokevirtual 145, 3) := by decide +kernel
theorem dL_law_302 : decode cL_law 302 = .ok (.if_icmp .ge 28, 3) := by decide +kernel
theorem dL_law_305 : decode cL_law 305 = .ok (.aload_n 1, 1) := by decide +kernel
theorem dL_law_306 : decode cL_law 306 = .ok (.iload 17, 2) := by decide +kernel
theorem dL_law_308 : decode cL_law 308 = .ok (.iload 19, 2) := by decide +kernel
theorem dL_law_310 : decode cL_law 310 = .ok (.invokevirtual 148, 3) := by decide +kernel
theorem dL_law_313 : decode cL_law 313 = .ok (.aload_n 1, 1) := by decide +kernel
theorem dL_law_314 : decode cL_law 314 = .ok (.iload 17, 2) := by decide +kernel
theorem dL_law_316 : decode cL_law 316 = .ok (.aload_n 1, 1) := by decide +kernel
theorem dL_law_317 : decode cL_law 317 = .ok (.iload 17, 2) := by decide +kernel
theorem dL_law_319 : decode cL_law 319 = .ok (.invokevirtual 145, 3) := by decide +kernel
theorem dL_law_322 : decode cL_law 322 = .ok (.invokevirtual 148, 3) := by decide +kernel
theorem dL_law_325 : decode cL_law 325 = .ok (.if_icmp .ne 5, 3) := by decide +kernel
theorem dL_law_328 : decode cL_law 328 = .ok (.iconst 0, 1) := by decide +kernel
theorem dL_law_329 : decode cL_law 329 = .ok (.ireturn, 1) := by decide +kernel
theorem dL_law_330 : decode cL_law 330 = .ok (.iinc 19 1, 3) := by decide +kernel
theorem dL_law_333 : decode cL_law 333 = .ok (.goto (-69), 3) := by decide +kernel
theorem dL_law_336 : decode cL_law 336 = .ok (.iinc 17 1, 3) := by decide +kernel
theorem dL_law_339 : decode cL_law 339 = .ok (.goto (-201), 3) := by decide +kernel
theorem dL_law_342 : decode cL_law 342 = .ok (.iconst 0, 1) := by decide +kernel
theorem dL_law_343 : decode cL_law 343 = .ok (.istore 17, 2) := by decide +kernel
theorem dL_law_345 : decode cL_law 345 = .ok (.iload 17, 2) := by decide +kernel
theorem dL_law_347 : decode cL_law 347 = .ok (.iload 8, 2) := by decide +kernel
theorem dL_law_349 : decode cL_law 349 = .ok (.if_icmp .ge 20, 3) := by decide +kernel
theorem dL_law_352 : decode cL_law 352 = .ok (.lload 14, 2) := by decide +kernel
theorem dL_law_354 : decode cL_law 354 = .ok (.aload_n 1, 1) := by decide +kernel
theorem dL_law_355 : decode cL_law 355 = .ok (.iload 17, 2) := by decide +kernel
theorem dL_law_357 : decode cL_law 357 = .ok (.invokevirtual 151, 3) := by decide +kernel
theorem dL_law_360 : decode cL_law 360 = .ok (.ladd, 1) := by decide +kernel
theorem dL_law_361 : decode cL_law 361 = .ok (.lstore 14, 2) := by decide +kernel
theorem dL_law_363 : decode cL_law 363 = .ok (.iinc 17 1, 3) := by decide +kernel
theorem dL_law_366 : decode cL_law 366 = .ok (.goto (-21), 3) := by decide +kernel
theorem dL_law_369 : decode cL_law 369 = .ok (.aload_n 1, 1) := by decide +kernel
theorem dL_law_370 : decode cL_law 370 = .ok (.iload 10, 2) := by decide +kernel
theorem dL_law_372 : decode cL_law 372 = .ok (.iload 11, 2) := by decide +kernel
theorem dL_law_374 : decode cL_law 374 = .ok (.invokevirtual 154, 3) := by decide +kernel
theorem dL_law_377 : decode cL_law 377 = .ok (.lstore 17, 2) := by decide +kernel
theorem dL_law_379 : decode cL_law 379 = .ok (.iload 11, 2) := by decide +kernel
theorem dL_law_381 : decode cL_law 381 = .ok (.iconst 1, 1) := by decide +kernel
theorem dL_law_382 : decode cL_law 382 = .ok (.iadd, 1) := by decide +kernel
theorem dL_law_383 : decode cL_law 383 = .ok (.iload 8, 2) := by decide +kernel
theorem dL_law_385 : decode cL_law 385 = .ok (.if_icmp .ge 23, 3) := by decide +kernel
theorem dL_law_388 : decode cL_law 388 = .ok (.lload 17, 2) := by decide +kernel
theorem dL_law_390 : decode cL_law 390 = .ok (.aload_n 1, 1) := by decide +kernel
theorem dL_law_391 : decode cL_law 391 = .ok (.iconst 0, 1) := by decide +kernel
theorem dL_law_392 : decode cL_law 392 = .ok (.iload 11, 2) := by decide +kernel
theorem dL_law_394 : decode cL_law 394 = .ok (.iconst 1, 1) := by decide +kernel
theorem dL_law_395 : decode cL_law 395 = .ok (.iadd, 1) := by decide +kernel
theorem dL_law_396 : decode cL_law 396 = .ok (.iload 10, 2) := by decide +kernel
theorem dL_law_398 : decode cL_law 398 = .ok (.iload 8, 2) := by decide +kernel
theorem dL_law_400 : decode cL_law 400 = .ok (.iconst 1, 1) := by decide +kernel
theorem dL_law_401 : decode cL_law 401 = .ok (.isub, 1) := by decide +kernel
theorem dL_law_402 : decode cL_law 402 = .ok (.invokevirtual 158, 3) := by decide +kernel
theorem dL_law_405 : decode cL_law 405 = .ok (.ladd, 1) := by decide +kernel
theorem dL_law_406 : decode cL_law 406 = .ok (.lstore 17, 2) := by decide +kernel
theorem dL_law_408 : decode cL_law 408 = .ok (.iload 10, 2) := by decide +kernel
theorem dL_law_410 : decode cL_law 410 = .ok (.iconst 1, 1) := by decide +kernel
theorem dL_law_411 : decode cL_law 411 = .ok (.iadd, 1) := by decide +kernel
theorem dL_law_412 : decode cL_law 412 = .ok (.iload 7, 2) := by decide +kernel
theorem dL_law_414 : decode cL_law 414 = .ok (.if_icmp .ge 23, 3) := by decide +kernel
theorem dL_law_417 : decode cL_law 417 = .ok (.lload 17, 2) := by decide +kernel
theorem dL_law_419 : decode cL_law 419 = .ok (.aload_n 1, 1) := by decide +kernel
theorem dL_law_420 : decode cL_law 420 = .ok (.iload 10, 2) := by decide +kernel
theorem dL_law_422 : decode cL_law 422 = .ok (.iconst 1, 1) := by decide +kernel
theorem dL_law_423 : decode cL_law 423 = .ok (.iadd, 1) := by decide +kernel
theorem dL_law_424 : decode cL_law 424 = .ok (.iconst 0, 1) := by decide +kernel
theorem dL_law_425 : decode cL_law 425 = .ok (.iload 7, 2) := by decide +kernel
theorem dL_law_427 : decode cL_law 427 = .ok (.iconst 1, 1) := by decide +kernel
theorem dL_law_428 : decode cL_law 428 = .ok (.isub, 1) := by decide +kernel
theorem dL_law_429 : decode cL_law 429 = .ok (.iload 11, 2) := by decide +kernel
theorem dL_law_431 : decode cL_law 431 = .ok (.invokevirtual 158, 3) := by decide +kernel
theorem dL_law_434 : decode cL_law 434 = .ok (.ladd, 1) := by decide +kernel
theorem dL_law_435 : decode cL_law 435 = .ok (.lstore 17, 2) := by decide +kernel
theorem dL_law_437 : decode cL_law 437 = .ok (.iload 10, 2) := by decide +kernel
theorem dL_law_439 : decode cL_law 439 = .ok (.iconst 1, 1) := by decide +kernel
theorem dL_law_440 : decode cL_law 440 = .ok (.iadd, 1) := by decide +kernel
theorem dL_law_441 : decode cL_law 441 = .ok (.iload 7, 2) := by decide +kernel
theorem dL_law_443 : decode cL_law 443 = .ok (.if_icmp .ge 37, 3) := by decide +kernel
theorem dL_law_446 : decode cL_law 446 = .ok (.iload 11, 2) := by decide +kernel
theorem dL_law_448 : decode cL_law 448 = .ok (.iconst 1, 1) := by decide +kernel
theorem dL_law_449 : decode cL_law 449 = .ok (.iadd, 1) := by decide +kernel
theorem dL_law_450 : decode cL_law 450 = .ok (.iload 8, 2) := by decide +kernel
theorem dL_law_452 : decode cL_law 452 = .ok (.if_icmp .ge 28, 3) := by decide +kernel
theorem dL_law_455 : decode cL_law 455 = .ok (.lload 17, 2) := by decide +kernel
theorem dL_law_457 : decode cL_law 457 = .ok (.aload_n 1, 1) := by decide +kernel
theorem dL_law_458 : decode cL_law 458 = .ok (.iload 10, 2) := by decide +kernel
theorem dL_law_460 : decode cL_law 460 = .ok (.iconst 1, 1) := by decide +kernel
theorem dL_law_461 : decode cL_law 461 = .ok (.iadd, 1) := by decide +kernel
theorem dL_law_462 : decode cL_law 462 = .ok (.iload 11, 2) := by decide +kernel
theorem dL_law_464 : decode cL_law 464 = .ok (.iconst 1, 1) := by decide +kernel
theorem dL_law_465 : decode cL_law 465 = .ok (.iadd, 1) := by decide +kernel
theorem dL_law_466 : decode cL_law 466 = .ok (.iload 7, 2) := by decide +kernel
theorem dL_law_468 : decode cL_law 468 = .ok (.iconst 1, 1) := by decide +kernel
theorem dL_law_469 : decode cL_law 469 = .ok (.isub, 1) := by decide +kernel
theorem dL_law_470 : decode cL_law 470 = .ok (.iload 8, 2) := by decide +kernel
theorem dL_law_472 : decode cL_law 472 = .ok (.iconst 1, 1) := by decide +kernel
theorem dL_law_473 : decode cL_law 473 = .ok (.isub, 1) := by decide +kernel
theorem dL_law_474 : decode cL_law 474 = .ok (.invokevirtual 158, 3) := by decide +kernel
theorem dL_law_477 : decode cL_law 477 = .ok (.ladd, 1) := by decide +kernel
theorem dL_law_478 : decode cL_law 478 = .ok (.lstore 17, 2) := by decide +kernel
theorem dL_law_480 : decode cL_law 480 = .ok (.lload 12, 2) := by decide +kernel
theorem dL_law_482 : decode cL_law 482 = .ok (.aload_n 1, 1) := by decide +kernel
theorem dL_law_483 : decode cL_law 483 = .ok (.invokevirtual 162, 3) := by decide +kernel
theorem dL_law_486 : decode cL_law 486 = .ok (.lcmp, 1) := by decide +kernel
theorem dL_law_487 : decode cL_law 487 = .ok (.ifCond .ne 28, 3) := by decide +kernel
theorem dL_law_490 : decode cL_law 490 = .ok (.lload 14, 2) := by decide +kernel
theorem dL_law_492 : decode cL_law 492 = .ok (.lload 12, 2) := by decide +kernel
theorem dL_law_494 : decode cL_law 494 = .ok (.lcmp, 1) := by decide +kernel
theorem dL_law_495 : decode cL_law 495 = .ok (.ifCond .ne 20, 3) := by decide +kernel
theorem dL_law_498 : decode cL_law 498 = .ok (.lload 17, 2) := by decide +kernel
theorem dL_law_500 : decode cL_law 500 = .ok (.lload 12, 2) := by decide +kernel
theorem dL_law_502 : decode cL_law 502 = .ok (.lcmp, 1) := by decide +kernel
theorem dL_law_503 : decode cL_law 503 = .ok (.ifCond .ne 12, 3) := by decide +kernel
theorem dL_law_506 : decode cL_law 506 = .ok (.iload 16, 2) := by decide +kernel
theorem dL_law_508 : decode cL_law 508 = .ok (.aload_n 1, 1) := by decide +kernel
theorem dL_law_509 : decode cL_law 509 = .ok (.invokevirtual 165, 3) := by decide +kernel
theorem dL_law_512 : decode cL_law 512 = .ok (.if_icmp .eq 5, 3) := by decide +kernel
theorem dL_law_515 : decode cL_law 515 = .ok (.iconst 0, 1) := by decide +kernel
theorem dL_law_516 : decode cL_law 516 = .ok (.ireturn, 1) := by decide +kernel
theorem dL_law_517 : decode cL_law 517 = .ok (.iconst (-1), 1) := by decide +kernel
theorem dL_law_518 : decode cL_law 518 = .ok (.istore 19, 2) := by decide +kernel
theorem dL_law_520 : decode cL_law 520 = .ok (.iconst 0, 1) := by decide +kernel
theorem dL_law_521 : decode cL_law 521 = .ok (.istore 20, 2) := by decide +kernel
theorem dL_law_523 : decode cL_law 523 = .ok (.iload 20, 2) := by decide +kernel
theorem dL_law_525 : decode cL_law 525 = .ok (.iload 16, 2) := by decide +kernel
theorem dL_law_527 : decode cL_law 527 = .ok (.if_icmp .ge 54, 3) := by decide +kernel
theorem dL_law_530 : decode cL_law 530 = .ok (.aload_n 1, 1) := by decide +kernel
theorem dL_law_531 : decode cL_law 531 = .ok (.iload 20, 2) := by decide +kernel
theorem dL_law_533 : decode cL_law 533 = .ok (.invokevirtual 168, 3) := by decide +kernel
theorem dL_law_536 : decode cL_law 536 = .ok (.istore 21, 2) := by decide +kernel
theorem dL_law_538 : decode cL_law 538 = .ok (.iload 21, 2) := by decide +kernel
theorem dL_law_540 : decode cL_law 540 = .ok (.iload 19, 2) := by decide +kernel
theorem dL_law_542 : decode cL_law 542 = .ok (.if_icmp .le 27, 3) := by decide +kernel
theorem dL_law_545 : decode cL_law 545 = .ok (.iload 21, 2) := by decide +kernel
theorem dL_law_547 : decode cL_law 547 = .ok (.iload 9, 2) := by decide +kernel
theorem dL_law_549 : decode cL_law 549 = .ok (.if_icmp .ge 20, 3) := by decide +kernel
theorem dL_law_552 : decode cL_law 552 = .ok (.aload_n 1, 1) := by decide +kernel
theorem dL_law_553 : decode cL_law 553 = .ok (.iload 21, 2) := by decide +kernel
theorem dL_law_555 : decode cL_law 555 = .ok (.iload 8, 2) := by decide +kernel
theorem dL_law_557 : decode cL_law 557 = .ok (.idiv, 1) := by decide +kernel
theorem dL_law_558 : decode cL_law 558 = .ok (.iload 21, 2) := by decide +kernel
theorem dL_law_560 : decode cL_law 560 = .ok (.iload 8, 2) := by decide +kernel
theorem dL_law_562 : decode cL_law 562 = .ok (.irem, 1) := by decide +kernel
theorem dL_law_563 : decode cL_law 563 = .ok (.invokevirtual 148, 3) := by decide +kernel
theorem dL_law_566 : decode cL_law 566 = .ok (.ifCond .le 5, 3) := by decide +kernel
theorem dL_law_569 : decode cL_law 569 = .ok (.iconst 0, 1) := by decide +kernel
theorem dL_law_570 : decode cL_law 570 = .ok (.ireturn, 1) := by decide +kernel
theorem dL_law_571 : decode cL_law 571 = .ok (.iload 21, 2) := by decide +kernel
theorem dL_law_573 : decode cL_law 573 = .ok (.istore 19, 2) := by decide +kernel
theorem dL_law_575 : decode cL_law 575 = .ok (.iinc 20 1, 3) := by decide +kernel
theorem dL_law_578 : decode cL_law 578 = .ok (.goto (-55), 3) := by decide +kernel
theorem dL_law_581 : decode cL_law 581 = .ok (.iload 4, 2) := by decide +kernel
theorem dL_law_583 : decode cL_law 583 = .ok (.iconst 4, 1) := by decide +kernel
theorem dL_law_584 : decode cL_law 584 = .ok (.ishr, 1) := by decide +kernel
theorem dL_law_585 : decode cL_law 585 = .ok (.sipush 200, 3) := by decide +kernel
theorem dL_law_588 : decode cL_law 588 = .ok (.invokestatic 19, 3) := by decide +kernel
theorem dL_law_591 : decode cL_law 591 = .ok (.bipush 50, 2) := by decide +kernel
theorem dL_law_593 : decode cL_law 593 = .ok (.isub, 1) := by decide +kernel
theorem dL_law_594 : decode cL_law 594 = .ok (.istore 20, 2) := by decide +kernel
theorem dL_law_596 : decode cL_law 596 = .ok (.aload_n 1, 1) := by decide +kernel
theorem dL_law_597 : decode cL_law 597 = .ok (.iload 10, 2) := by decide +kernel
theorem dL_law_599 : decode cL_law 599 = .ok (.iload 20, 2) := by decide +kernel
theorem dL_law_601 : decode cL_law 601 = .ok (.invokevirtual 171, 3) := by decide +kernel
theorem dL_law_604 : decode cL_law 604 = .ok (.istore 21, 2) := by decide +kernel
theorem dL_law_606 : decode cL_law 606 = .ok (.iload 21, 2) := by decide +kernel
theorem dL_law_608 : decode cL_law 608 = .ok (.iload 8, 2) := by decide +kernel
theorem dL_law_610 : decode cL_law 610 = .ok (.if_icmp .ge 69, 3) := by decide +kernel
theorem dL_law_613 : decode cL_law 613 = .ok (.iload 21, 2) := by decide +kernel
theorem dL_law_615 : decode cL_law 615 = .ok (.ifCond .lt 21, 3) := by decide +kernel
theorem dL_law_618 : decode cL_law 618 = .ok (.aload_n 1, 1) := by decide +kernel
theorem dL_law_619 : decode cL_law 619 = .ok (.iload 10, 2) := by decide +kernel
theorem dL_law_621 : decode cL_law 621 = .ok (.iconst 0, 1) := by decide +kernel
theorem dL_law_622 : decode cL_law 622 = .ok (.iload 10, 2) := by decide +kernel
theorem dL_law_624 : decode cL_law 624 = .ok (.iload 21, 2) := by decide +kernel
theorem dL_law_626 : decode cL_law 626 = .ok (.invokevirtual 158, 3) := by decide +kernel
theorem dL_law_629 : decode cL_law 629 = .ok (.iload 20, 2) := by decide +kernel
theorem dL_law_631 : decode cL_law 631 = .ok (.i2l, 1) := by decide +kernel
theorem dL_law_632 : decode cL_law 632 = .ok (.lcmp, 1) := by decide +kernel
theorem dL_law_633 : decode cL_law 633 = .ok (.ifCond .lt 46, 3) := by decide +kernel
theorem dL_law_636 : decode cL_law 636 = .ok (.iload 21, 2) := by decide +kernel
theorem dL_law_638 : decode cL_law 638 = .ok (.ifCond .le 23, 3) := by decide +kernel
theorem dL_law_641 : decode cL_law 641 = .ok (.aload_n 1, 1) := by decide +kernel
theorem dL_law_642 : decode cL_law 642 = .ok (.iload 10, 2) := by decide +kernel
theorem dL_law_644 : decode cL_law 644 = .ok (.iconst 0, 1) := by decide +kernel
theorem dL_law_645 : decode cL_law 645 = .ok (.iload 10, 2) := by decide +kernel
theorem dL_law_647 : decode cL_law 647 = .ok (.iload 21, 2) := by decide +kernel
theorem dL_law_649 : decode cL_law 649 = .ok (.iconst 1, 1) := by decide +kernel
theorem dL_law_650 : decode cL_law 650 = .ok (.isub, 1) := by decide +kernel
theorem dL_law_651 : decode cL_law 651 = .ok (.invokevirtual 158, 3) := by decide +kernel
theorem dL_law_654 : decode cL_law 654 = .ok (.iload 20, 2) := by decide +kernel
theorem dL_law_656 : decode cL_law 656 = .ok (.i2l, 1) := by decide +kernel
theorem dL_law_657 : decode cL_law 657 = .ok (.lcmp, 1) := by decide +kernel
theorem dL_law_658 : decode cL_law 658 = .ok (.ifCond .ge 21, 3) := by decide +kernel
theorem dL_law_661 : decode cL_law 661 = .ok (.iload 21, 2) := by decide +kernel
theorem dL_law_663 : decode cL_law 663 = .ok (.ifCond .ge 18, 3) := by decide +kernel
theorem dL_law_666 : decode cL_law 666 = .ok (.aload_n 1, 1) := by decide +kernel
theorem dL_law_667 : decode cL_law 667 = .ok (.iload 10, 2) := by decide +kernel
theorem dL_law_669 : decode cL_law 669 = .ok (.invokevirtual 128, 3) := by decide +kernel
theorem dL_law_672 : decode cL_law 672 = .ok (.iload 20, 2) := by decide +kernel
theorem dL_law_674 : decode cL_law 674 = .ok (.i2l, 1) := by decide +kernel
theorem dL_law_675 : decode cL_law 675 = .ok (.lcmp, 1) := by decide +kernel
theorem dL_law_676 : decode cL_law 676 = .ok (.ifCond .lt 5, 3) := by decide +kernel
theorem dL_law_679 : decode cL_law 679 = .ok (.iconst 0, 1) := by decide +kernel
theorem dL_law_680 : decode cL_law 680 = .ok (.ireturn, 1) := by decide +kernel
theorem dL_law_681 : decode cL_law 681 = .ok (.iload 4, 2) := by decide +kernel
theorem dL_law_683 : decode cL_law 683 = .ok (.bipush 6, 2) := by decide +kernel
theorem dL_law_685 : decode cL_law 685 = .ok (.ishr, 1) := by decide +kernel
theorem dL_law_686 : decode cL_law 686 = .ok (.iload 9, 2) := by decide +kernel
theorem dL_law_688 : decode cL_law 688 = .ok (.invokestatic 19, 3) := by decide +kernel
theorem dL_law_691 : decode cL_law 691 = .ok (.istore 22, 2) := by decide +kernel
theorem dL_law_693 : decode cL_law 693 = .ok (.aload_n 1, 1) := by decide +kernel
theorem dL_law_694 : decode cL_law 694 = .ok (.iload 22, 2) := by decide +kernel
theorem dL_law_696 : decode cL_law 696 = .ok (.invokevirtual 174, 3) := by decide +kernel
theorem dL_law_699 : decode cL_law 699 = .ok (.istore 23, 2) := by decide +kernel
theorem dL_law_701 : decode cL_law 701 = .ok (.iload 22, 2) := by decide +kernel
theorem dL_law_703 : decode cL_law 703 = .ok (.ifCond .le 16, 3) := by decide +kernel
theorem dL_law_706 : decode cL_law 706 = .ok (.aload_n 1, 1) := by decide +kernel
theorem dL_law_707 : decode cL_law 707 = .ok (.iload 22, 2) := by decide +kernel
theorem dL_law_709 : decode cL_law 709 = .ok (.iconst 1, 1) := by decide +kernel
theorem dL_law_710 : decode cL_law 710 = .ok (.isub, 1) := by decide +kernel
theorem dL_law_711 : decode cL_law 711 = .ok (.invokevirtual 174, 3) := by decide +kernel
theorem dL_law_714 : decode cL_law 714 = .ok (.iload 23, 2) := by decide +kernel
theorem dL_law_716 : decode cL_law 716 = .ok (.if_icmp .gt 66, 3) := by decide +kernel
theorem dL_law_719 : decode cL_law 719 = .ok (.aload_n 1, 1) := by decide +kernel
theorem dL_law_720 : decode cL_law 720 = .ok (.iload 23, 2) := by decide +kernel
theorem dL_law_722 : decode cL_law 722 = .ok (.invokevirtual 177, 3) := by decide +kernel
theorem dL_law_725 : decode cL_law 725 = .ok (.iload 22, 2) := by decide +kernel
theorem dL_law_727 : decode cL_law 727 = .ok (.if_icmp .le 55, 3) := by decide +kernel
theorem dL_law_730 : decode cL_law 730 = .ok (.aload_n 1, 1) := by decide +kernel
theorem dL_law_731 : decode cL_law 731 = .ok (.iload 23, 2) := by decide +kernel
theorem dL_law_733 : decode cL_law 733 = .ok (.iconst 1, 1) := by decide +kernel
theorem dL_law_734 : decode cL_law 734 = .ok (.isub, 1) := by decide +kernel
theorem dL_law_735 : decode cL_law 735 = .ok (.invokevirtual 177, 3) := by decide +kernel
theorem dL_law_738 : decode cL_law 738 = .ok (.iload 22, 2) := by decide +kernel
theorem dL_law_740 : decode cL_law 740 = .ok (.if_icmp .gt 42, 3) := by decide +kernel
theorem dL_law_743 : decode cL_law 743 = .ok (.aload_n 1, 1) := by decide +kernel
theorem dL_law_744 : decode cL_law 744 = .ok (.iconst 0, 1) := by decide +kernel
theorem dL_law_745 : decode cL_law 745 = .ok (.iconst 0, 1) := by decide +kernel
theorem dL_law_746 : decode cL_law 746 = .ok (.iload 7, 2) := by decide +kernel
theorem dL_law_748 : decode cL_law 748 = .ok (.iconst 1, 1) := by decide +kernel
theorem dL_law_749 : decode cL_law 749 = .ok (.isub, 1) := by decide +kernel
theorem dL_law_750 : decode cL_law 750 = .ok (.iload 8, 2) := by decide +kernel
theorem dL_law_752 : decode cL_law 752 = .ok (.iconst 1, 1) := by decide +kernel
theorem dL_law_753 : decode cL_law 753 = .ok (.isub, 1) := by decide +kernel
theorem dL_law_754 : decode cL_law 754 = .ok (.invokevirtual 180, 3) := by decide +kernel
theorem dL_law_757 : decode cL_law 757 = .ok (.aload_n 1, 1) := by decide +kernel
theorem dL_law_758 : decode cL_law 758 = .ok (.iconst 0, 1) := by decide +kernel
theorem dL_law_759 : decode cL_law 759 = .ok (.invokevirtual 174, 3) := by decide +kernel
theorem dL_law_762 : decode cL_law 762 = .ok (.if_icmp .ne 20, 3) := by decide +kernel
theorem dL_law_765 : decode cL_law 765 = .ok (.aload_n 1, 1) := by decide +kernel
theorem dL_law_766 : decode cL_law 766 = .ok (.aload_n 1, 1) := by decide +kernel
theorem dL_law_767 : decode cL_law 767 = .ok (.iload 9, 2) := by decide +kernel
theorem dL_law_769 : decode cL_law 769 = .ok (.iconst 1, 1) := by decide +kernel
theorem dL_law_770 : decode cL_law 770 = .ok (.isub, 1) := by decide +kernel
theorem dL_law_771 : decode cL_law 771 = .ok (.invokevirtual 174, 3) := by decide +kernel
theorem dL_law_774 : decode cL_law 774 = .ok (.invokevirtual 177, 3) := by decide +kernel
theorem dL_law_777 : decode cL_law 777 = .ok (.iload 9, 2) := by decide +kernel
theorem dL_law_779 : decode cL_law 779 = .ok (.if_icmp .eq 5, 3) := by decide +kernel
theorem dL_law_782 : decode cL_law 782 = .ok (.iconst 0, 1) := by decide +kernel
theorem dL_law_783 : decode cL_law 783 = .ok (.ireturn, 1) := by decide +kernel
theorem dL_law_784 : decode cL_law 784 = .ok (.aload_n 1, 1) := by decide +kernel
theorem dL_law_785 : decode cL_law 785 = .ok (.invokevirtual 183, 3) := by decide +kernel
theorem dL_law_788 : decode cL_law 788 = .ok (.istore 24, 2) := by decide +kernel
theorem dL_law_790 : decode cL_law 790 = .ok (.aload_n 2, 1) := by decide +kernel
theorem dL_law_791 : decode cL_law 791 = .ok (.invokevirtual 186, 3) := by decide +kernel
theorem dL_law_794 : decode cL_law 794 = .ok (.astore 25, 2) := by decide +kernel
theorem dL_law_796 : decode cL_law 796 = .ok (.aload 25, 2) := by decide +kernel
theorem dL_law_798 : decode cL_law 798 = .ok (.iload 10, 2) := by decide +kernel
theorem dL_law_800 : decode cL_law 800 = .ok (.aload_n 1, 1) := by decide +kernel
theorem dL_law_801 : decode cL_law 801 = .ok (.iload 10, 2) := by decide +kernel
theorem dL_law_803 : decode cL_law 803 = .ok (.invokevirtual 190, 3) := by decide +kernel
theorem dL_law_806 : decode cL_law 806 = .ok (.invokevirtual 44, 3) := by decide +kernel
theorem dL_law_809 : decode cL_law 809 = .ok (.aload_n 2, 1) := by decide +kernel
theorem dL_law_810 : decode cL_law 810 = .ok (.invokevirtual 186, 3) := by decide +kernel
theorem dL_law_813 : decode cL_law 813 = .ok (.astore 26, 2) := by decide +kernel
theorem dL_law_815 : decode cL_law 815 = .ok (.aload 26, 2) := by decide +kernel
theorem dL_law_817 : decode cL_law 817 = .ok (.iload 10, 2) := by decide +kernel
theorem dL_law_819 : decode cL_law 819 = .ok (.iload 4, 2) := by decide +kernel
theorem dL_law_821 : decode cL_law 821 = .ok (.bipush 7, 2) := by decide +kernel
theorem dL_law_823 : decode cL_law 823 = .ok (.ishr, 1) := by decide +kernel
theorem dL_law_824 : decode cL_law 824 = .ok (.iload 7, 2) := by decide +kernel
theorem dL_law_826 : decode cL_law 826 = .ok (.invokestatic 19, 3) := by decide +kernel
theorem dL_law_829 : decode cL_law 829 = .ok (.invokevirtual 44, 3) := by decide +kernel
theorem dL_law_832 : decode cL_law 832 = .ok (.iload 24, 2) := by decide +kernel
theorem dL_law_834 : decode cL_law 834 = .ok (.ifCond .lt 40, 3) := by decide +kernel
theorem dL_law_837 : decode cL_law 837 = .ok (.iload 24, 2) := by decide +kernel
theorem dL_law_839 : decode cL_law 839 = .ok (.iload 9, 2) := by decide +kernel
theorem dL_law_841 : decode cL_law 841 = .ok (.iload 9, 2) := by decide +kernel
theorem dL_law_843 : decode cL_law 843 = .ok (.iconst 1, 1) := by decide +kernel
theorem dL_law_844 : decode cL_law 844 = .ok (.isub, 1) := by decide +kernel
theorem dL_law_845 : decode cL_law 845 = .ok (.imul, 1) := by decide +kernel
theorem dL_law_846 : decode cL_law 846 = .ok (.iconst 2, 1) := by decide +kernel
theorem dL_law_847 : decode cL_law 847 = .ok (.idiv, 1) := by decide +kernel
theorem dL_law_848 : decode cL_law 848 = .ok (.if_icmp .gt 26, 3) := by decide +kernel
theorem dL_law_851 : decode cL_law 851 = .ok (.aload 25, 2) := by decide +kernel
theorem dL_law_853 : decode cL_law 853 = .ok (.invokevirtual 193, 3) := by decide +kernel
theorem dL_law_856 : decode cL_law 856 = .ok (.iload 24, 2) := by decide +kernel
theorem dL_law_858 : decode cL_law 858 = .ok (.if_icmp .gt 16, 3) := by decide +kernel
theorem dL_law_861 : decode cL_law 861 = .ok (.aload 25, 2) := by decide +kernel
theorem dL_law_863 : decode cL_law 863 = .ok (.invokevirtual 193, 3) := by decide +kernel
theorem dL_law_866 : decode cL_law 866 = .ok (.aload 26, 2) := by decide +kernel
theorem dL_law_868 : decode cL_law 868 = .ok (.invokevirtual 193, 3) := by decide +kernel
theorem dL_law_871 : decode cL_law 871 = .ok (.if_icmp .le 5, 3) := by decide +kernel
theorem dL_law_874 : decode cL_law 874 = .ok (.iconst 0, 1) := by decide +kernel
theorem dL_law_875 : decode cL_law 875 = .ok (.ireturn, 1) := by decide +kernel
theorem dL_law_876 : decode cL_law 876 = .ok (.iconst 1, 1) := by decide +kernel
theorem dL_law_877 : decode cL_law 877 = .ok (.iload 4, 2) := by decide +kernel
theorem dL_law_879 : decode cL_law 879 = .ok (.iconst 5, 1) := by decide +kernel
theorem dL_law_880 : decode cL_law 880 = .ok (.ishr, 1) := by decide +kernel
theorem dL_law_881 : decode cL_law 881 = .ok (.bipush 9, 2) := by decide +kernel
theorem dL_law_883 : decode cL_law 883 = .ok (.invokestatic 19, 3) := by decide +kernel
theorem dL_law_886 : decode cL_law 886 = .ok (.iadd, 1) := by decide +kernel
theorem dL_law_887 : decode cL_law 887 = .ok (.istore 27, 2) := by decide +kernel
theorem dL_law_889 : decode cL_law 889 = .ok (.aload_n 1, 1) := by decide +kernel
theorem dL_law_890 : decode cL_law 890 = .ok (.iload 27, 2) := by decide +kernel
theorem dL_law_892 : decode cL_law 892 = .ok (.invokevirtual 196, 3) := by decide +kernel
theorem dL_law_895 : decode cL_law 895 = .ok (.lstore 28, 2) := by decide +kernel
theorem dL_law_897 : decode cL_law 897 = .ok (.aload_n 1, 1) := by decide +kernel
theorem dL_law_898 : decode cL_law 898 = .ok (.iload 27, 2) := by decide +kernel
theorem dL_law_900 : decode cL_law 900 = .ok (.invokevirtual 199, 3) := by decide +kernel
theorem dL_law_903 : decode cL_law 903 = .ok (.istore 30, 2) := by decide +kernel
theorem dL_law_905 : decode cL_law 905 = .ok (.aload_n 1, 1) := by decide +kernel
theorem dL_law_906 : decode cL_law 906 = .ok (.invokevirtual 202, 3) := by decide +kernel
theorem dL_law_909 : decode cL_law 909 = .ok (.istore 31, 2) := by decide +kernel
theorem dL_law_911 : decode cL_law 911 = .ok (.aload_n 1, 1) := by decide +kernel
theorem dL_law_912 : decode cL_law 912 = .ok (.invokevirtual 118, 3) := by decide +kernel
theorem dL_law_915 : decode cL_law 915 = .ok (.lload 5, 2) := by decide +kernel
theorem dL_law_917 : decode cL_law 917 = .ok (.lcmp, 1) := by decide +kernel
theorem dL_law_918 : decode cL_law 918 = .ok (.ifCond .ne 35, 3) := by decide +kernel
theorem dL_law_921 : decode cL_law 921 = .ok (.iload 31, 2) := by decide +kernel
theorem dL_law_923 : decode cL_law 923 = .ok (.bipush 60, 2) := by decide +kernel
theorem dL_law_925 : decode cL_law 925 = .ok (.if_icmp .gt 28, 3) := by decide +kernel
theorem dL_law_928 : decode cL_law 928 = .ok (.iload 31, 2) := by decide +kernel
theorem dL_law_930 : decode cL_law 930 = .ok (.ifCond .ne 7, 3) := by decide +kernel
theorem dL_law_933 : decode cL_law 933 = .ok (.iconst 1, 1) := by decide +kernel
theorem dL_law_934 : decode cL_law 934 = .ok (.goto 4, 3) := by decide +kernel
theorem dL_law_937 : decode cL_law 937 = .ok (.iconst 0, 1) := by decide +kernel
theorem dL_law_938 : decode cL_law 938 = .ok (.iload 16, 2) := by decide +kernel
theorem dL_law_940 : decode cL_law 940 = .ok (.iload 9, 2) := by decide +kernel
theorem dL_law_942 : decode cL_law 942 = .ok (.if_icmp .ne 7, 3) := by decide +kernel
theorem dL_law_945 : decode cL_law 945 = .ok (.iconst 1, 1) := by decide +kernel
theorem dL_law_946 : decode cL_law 946 = .ok (.goto 4, 3) := by decide +kernel
theorem dL_law_949 : decode cL_law 949 = .ok (.iconst 0, 1) := by decide +kernel
theorem dL_law_950 : decode cL_law 950 = .ok (.if_icmp .eq 5, 3) := by decide +kernel
theorem dL_law_953 : decode cL_law 953 = .ok (.iconst 0, 1) := by decide +kernel
theorem dL_law_954 : decode cL_law 954 = .ok (.ireturn, 1) := by decide +kernel
theorem dL_law_955 : decode cL_law 955 = .ok (.aload_n 1, 1) := by decide +kernel
theorem dL_law_956 : decode cL_law 956 = .ok (.invokevirtual 205, 3) := by decide +kernel
theorem dL_law_959 : decode cL_law 959 = .ok (.lstore 32, 2) := by decide +kernel
theorem dL_law_961 : decode cL_law 961 = .ok (.iconst 0, 1) := by decide +kernel
theorem dL_law_962 : decode cL_law 962 = .ok (.istore 34, 2) := by decide +kernel
theorem dL_law_964 : decode cL_law 964 = .ok (.iconst 1, 1) := by decide +kernel
theorem dL_law_965 : decode cL_law 965 = .ok (.istore 35, 2) := by decide +kernel
theorem dL_law_967 : decode cL_law 967 = .ok (.iload 35, 2) := by decide +kernel
theorem dL_law_969 : decode cL_law 969 = .ok (.iload 27, 2) := by decide +kernel
theorem dL_law_971 : decode cL_law 971 = .ok (.if_icmp .gt 196, 3) := by decide +kernel
theorem dL_law_974 : decode cL_law 974 = .ok (.aload_n 1, 1) := by decide +kernel
theorem dL_law_975 : decode cL_law 975 = .ok (.invokevirtual 162, 3) := by decide +kernel
theorem dL_law_978 : decode cL_law 978 = .ok (.lstore 36, 2) := by decide +kernel
theorem dL_law_980 : decode cL_law 980 = .ok (.lconst 0, 1) := by decide +kernel
theorem dL_law_981 : decode cL_law 981 = .ok (.lstore 38, 2) := by decide +kernel
theorem dL_law_983 : decode cL_law 983 = .ok (.iconst 0, 1) := by decide +kernel
theorem dL_law_984 : decode cL_law 984 = .ok (.istore 40, 2) := by decide +kernel
theorem dL_law_986 : decode cL_law 986 = .ok (.iload 40, 2) := by decide +kernel
theorem dL_law_988 : decode cL_law 988 = .ok (.iload 9, 2) := by decide +kernel
theorem dL_law_990 : decode cL_law 990 = .ok (.if_icmp .ge 40, 3) := by decide +kernel
theorem dL_law_993 : decode cL_law 993 = .ok (.lload 38, 2) := by decide +kernel
theorem dL_law_995 : decode cL_law 995 = .ok (.aload_n 1, 1) := by decide +kernel
theorem dL_law_996 : decode cL_law 996 = .ok (.invokevirtual 208, 3) := by decide +kernel
theorem dL_law_999 : decode cL_law 999 = .ok (.iconst 0, 1) := by decide +kernel
theorem dL_law_1000 : decode cL_law 1000 = .ok (.aload_n 1, 1) := by decide +kernel
theorem dL_law_1001 : decode cL_law 1001 = .ok (.iload 40, 2) := by decide +kernel
theorem dL_law_1003 : decode cL_law 1003 = .ok (.iload 8, 2) := by decide +kernel
theorem dL_law_1005 : decode cL_law 1005 = .ok (.idiv, 1) := by decide +kernel
theorem dL_law_1006 : decode cL_law 1006 = .ok (.iload 40, 2) := by decide +kernel
theorem dL_law_1008 : decode cL_law 1008 = .ok (.iload 8, 2) := by decide +kernel
theorem dL_law_1010 : decode cL_law 1010 = .ok (.irem, 1) := by decide +kernel
theorem dL_law_1011 : decode cL_law 1011 = .ok (.invokevirtual 148, 3) := by decide +kernel
theorem dL_law_1014 : decode cL_law 1014 = .ok (.invokestatic 210, 3) := by decide +kernel
theorem dL_law_1017 : decode cL_law 1017 = .ok (.invokestatic 215, 3) := by decide +kernel
theorem dL_law_1020 : decode cL_law 1020 = .ok (.i2l, 1) := by decide +kernel
theorem dL_law_1021 : decode cL_law 1021 = .ok (.ladd, 1) := by decide +kernel
theorem dL_law_1022 : decode cL_law 1022 = .ok (.lstore 38, 2) := by decide +kernel
theorem dL_law_1024 : decode cL_law 1024 = .ok (.iinc 40 1, 3) := by decide +kernel
theorem dL_law_1027 : decode cL_law 1027 = .ok (.goto (-41), 3) := by decide +kernel
theorem dL_law_1030 : decode cL_law 1030 = .ok (.aload_n 1, 1) := by decide +kernel
theorem dL_law_1031 : decode cL_law 1031 = .ok (.iconst 1, 1) := by decide +kernel
theorem dL_law_1032 : decode cL_law 1032 = .ok (.invokevirtual 96, 3) := by decide +kernel
theorem dL_law_1035 : decode cL_law 1035 = .ok (.istore 40, 2) := by decide +kernel
theorem dL_law_1037 : decode cL_law 1037 = .ok (.aload_n 2, 1) := by decide +kernel
theorem dL_law_1038 : decode cL_law 1038 = .ok (.invokevirtual 33, 3) := by decide +kernel
theorem dL_law_1041 : decode cL_law 1041 = .ok (.iload 34, 2) := by decide +kernel
theorem dL_law_1043 : decode cL_law 1043 = .ok (.iload 40, 2) := by decide +kernel
theorem dL_law_1045 : decode cL_law 1045 = .ok (.iadd, 1) := by decide +kernel
theorem dL_law_1046 : decode cL_law 1046 = .ok (.istore 34, 2) := by decide +kernel
theorem dL_law_1048 : decode cL_law 1048 = .ok (.iload 40, 2) := by decide +kernel
theorem dL_law_1050 : decode cL_law 1050 = .ok (.ifCond .lt 29, 3) := by decide +kernel
theorem dL_law_1053 : decode cL_law 1053 = .ok (.aload_n 1, 1) := by decide +kernel
theorem dL_law_1054 : decode cL_law 1054 = .ok (.invokevirtual 162, 3) := by decide +kernel
theorem dL_law_1057 : decode cL_law 1057 = .ok (.lload 36, 2) := by decide +kernel
theorem dL_law_1059 : decode cL_law 1059 = .ok (.lload 38, 2) := by decide +kernel
theorem dL_law_1061 : decode cL_law 1061 = .ok (.lsub, 1) := by decide +kernel
theorem dL_law_1062 : decode cL_law 1062 = .ok (.iload 40, 2) := by decide +kernel
theorem dL_law_1064 : decode cL_law 1064 = .ok (.i2l, 1) := by decide +kernel
theorem dL_law_1065 : decode cL_law 1065 = .ok (.lsub, 1) := by decide +kernel
theorem dL_law_1066 : decode cL_law 1066 = .ok (.lcmp, 1) := by decide +kernel
theorem dL_law_1067 : decode cL_law 1067 = .ok (.ifCond .ne 12, 3) := by decide +kernel
theorem dL_law_1070 : decode cL_law 1070 = .ok (.aload_n 2, 1) := by decide +kernel
theorem dL_law_1071 : decode cL_law 1071 = .ok (.invokevirtual 218, 3) := by decide +kernel
theorem dL_law_1074 : decode cL_law 1074 = .ok (.iload 40, 2) := by decide +kernel
theorem dL_law_1076 : decode cL_law 1076 = .ok (.if_icmp .eq 5, 3) := by decide +kernel
theorem dL_law_1079 : decode cL_law 1079 = .ok (.iconst 0, 1) := by decide +kernel
theorem dL_law_1080 : decode cL_law 1080 = .ok (.ireturn, 1) := by decide +kernel
theorem dL_law_1081 : decode cL_law 1081 = .ok (.iconst 0, 1) := by decide +kernel
theorem dL_law_1082 : decode cL_law 1082 = .ok (.istore 41, 2) := by decide +kernel
theorem dL_law_1084 : decode cL_law 1084 = .ok (.iload 41, 2) := by decide +kernel
theorem dL_law_1086 : decode cL_law 1086 = .ok (.iload 9, 2) := by decide +kernel
theorem dL_law_1088 : decode cL_law 1088 = .ok (.if_icmp .ge 37, 3) := by decide +kernel
theorem dL_law_1091 : decode cL_law 1091 = .ok (.aload_n 1, 1) := by decide +kernel
theorem dL_law_1092 : decode cL_law 1092 = .ok (.iload 41, 2) := by decide +kernel
theorem dL_law_1094 : decode cL_law 1094 = .ok (.iload 8, 2) := by decide +kernel
theorem dL_law_1096 : decode cL_law 1096 = .ok (.idiv, 1) := by decide +kernel
theorem dL_law_1097 : decode cL_law 1097 = .ok (.iload 41, 2) := by decide +kernel
theorem dL_law_1099 : decode cL_law 1099 = .ok (.iload 8, 2) := by decide +kernel
theorem dL_law_1101 : decode cL_law 1101 = .ok (.irem, 1) := by decide +kernel
theorem dL_law_1102 : decode cL_law 1102 = .ok (.invokevirtual 148, 3) := by decide +kernel
theorem dL_law_1105 : decode cL_law 1105 = .ok (.aload_n 1, 1) := by decide +kernel
theorem dL_law_1106 : decode cL_law 1106 = .ok (.iload 41, 2) := by decide +kernel
theorem dL_law_1108 : decode cL_law 1108 = .ok (.iload 8, 2) := by decide +kernel
theorem dL_law_1110 : decode cL_law 1110 = .ok (.irem, 1) := by decide +kernel
theorem dL_law_1111 : decode cL_law 1111 = .ok (.invokevirtual 220, 3) := by decide +kernel
theorem dL_law_1114 : decode cL_law 1114 = .ok (.if_icmp .le 5, 3) := by decide +kernel
theorem dL_law_1117 : decode cL_law 1117 = .ok (.iconst 0, 1) := by decide +kernel
theorem dL_law_1118 : decode cL_law 1118 = .ok (.ireturn, 1) := by decide +kernel
theorem dL_law_1119 : decode cL_law 1119 = .ok (.iinc 41 1, 3) := by decide +kernel
theorem dL_law_1122 : decode cL_law 1122 = .ok (.goto (-38), 3) := by decide +kernel
theorem dL_law_1125 : decode cL_law 1125 = .ok (.iload 31, 2) := by decide +kernel
theorem dL_law_1127 : decode cL_law 1127 = .ok (.ifCond .le 34, 3) := by decide +kernel
theorem dL_law_1130 : decode cL_law 1130 = .ok (.aload_n 1, 1) := by decide +kernel
theorem dL_law_1131 : decode cL_law 1131 = .ok (.invokevirtual 165, 3) := by decide +kernel
theorem dL_law_1134 : decode cL_law 1134 = .ok (.iload 9, 2) := by decide +kernel
theorem dL_law_1136 : decode cL_law 1136 = .ok (.if_icmp .ne 7, 3) := by decide +kernel
theorem dL_law_1139 : decode cL_law 1139 = .ok (.iconst 1, 1) := by decide +kernel
theorem dL_law_1140 : decode cL_law 1140 = .ok (.goto 4, 3) := by decide +kernel
theorem dL_law_1143 : decode cL_law 1143 = .ok (.iconst 0, 1) := by decide +kernel
theorem dL_law_1144 : decode cL_law 1144 = .ok (.iload 35, 2) := by decide +kernel
theorem dL_law_1146 : decode cL_law 1146 = .ok (.iload 31, 2) := by decide +kernel
theorem dL_law_1148 : decode cL_law 1148 = .ok (.if_icmp .lt 7, 3) := by decide +kernel
theorem dL_law_1151 : decode cL_law 1151 = .ok (.iconst 1, 1) := by decide +kernel
theorem dL_law_1152 : decode cL_law 1152 = .ok (.goto 4, 3) := by decide +kernel
theorem dL_law_1155 : decode cL_law 1155 = .ok (.iconst 0, 1) := by decide +kernel
theorem dL_law_1156 : decode cL_law 1156 = .ok (.if_icmp .eq 5, 3) := by decide +kernel
theorem dL_law_1159 : decode cL_law 1159 = .ok (.iconst 0, 1) := by decide +kernel
theorem dL_law_1160 : decode cL_law 1160 = .ok (.ireturn, 1) := by decide +kernel
theorem dL_law_1161 : decode cL_law 1161 = .ok (.iinc 35 1, 3) := by decide +kernel
theorem dL_law_1164 : decode cL_law 1164 = .ok (.goto (-197), 3) := by decide +kernel
theorem dL_law_1167 : decode cL_law 1167 = .ok (.aload_n 1, 1) := by decide +kernel
theorem dL_law_1168 : decode cL_law 1168 = .ok (.invokevirtual 162, 3) := by decide +kernel
theorem dL_law_1171 : decode cL_law 1171 = .ok (.lload 28, 2) := by decide +kernel
theorem dL_law_1173 : decode cL_law 1173 = .ok (.lcmp, 1) := by decide +kernel
theorem dL_law_1174 : decode cL_law 1174 = .ok (.ifCond .ne 24, 3) := by decide +kernel
theorem dL_law_1177 : decode cL_law 1177 = .ok (.iload 34, 2) := by decide +kernel
theorem dL_law_1179 : decode cL_law 1179 = .ok (.iload 30, 2) := by decide +kernel
theorem dL_law_1181 : decode cL_law 1181 = .ok (.if_icmp .ne 17, 3) := by decide +kernel
theorem dL_law_1184 : decode cL_law 1184 = .ok (.aload_n 1, 1) := by decide +kernel
theorem dL_law_1185 : decode cL_law 1185 = .ok (.invokevirtual 205, 3) := by decide +kernel
theorem dL_law_1188 : decode cL_law 1188 = .ok (.lload 32, 2) := by decide +kernel
theorem dL_law_1190 : decode cL_law 1190 = .ok (.iload 30, 2) := by decide +kernel
theorem dL_law_1192 : decode cL_law 1192 = .ok (.i2l, 1) := by decide +kernel
theorem dL_law_1193 : decode cL_law 1193 = .ok (.ladd, 1) := by decide +kernel
theorem dL_law_1194 : decode cL_law 1194 = .ok (.lcmp, 1) := by decide +kernel
theorem dL_law_1195 : decode cL_law 1195 = .ok (.ifCond .eq 5, 3) := by decide +kernel
theorem dL_law_1198 : decode cL_law 1198 = .ok (.iconst 0, 1) := by decide +kernel
theorem dL_law_1199 : decode cL_law 1199 = .ok (.ireturn, 1) := by decide +kernel
theorem dL_law_1200 : decode cL_law 1200 = .ok (.aload_n 1, 1) := by decide +kernel
theorem dL_law_1201 : decode cL_law 1201 = .ok (.iload 10, 2) := by decide +kernel
theorem dL_law_1203 : decode cL_law 1203 = .ok (.iconst 1, 1) := by decide +kernel
theorem dL_law_1204 : decode cL_law 1204 = .ok (.iload 4, 2) := by decide +kernel
theorem dL_law_1206 : decode cL_law 1206 = .ok (.iconst 3, 1) := by decide +kernel
theorem dL_law_1207 : decode cL_law 1207 = .ok (.ishr, 1) := by decide +kernel
theorem dL_law_1208 : decode cL_law 1208 = .ok (.bipush 99, 2) := by decide +kernel
theorem dL_law_1210 : decode cL_law 1210 = .ok (.invokestatic 19, 3) := by decide +kernel
theorem dL_law_1213 : decode cL_law 1213 = .ok (.iadd, 1) := by decide +kernel
theorem dL_law_1214 : decode cL_law 1214 = .ok (.invokevirtual 53, 3) := by decide +kernel
theorem dL_law_1217 : decode cL_law 1217 = .ok (.istore 35, 2) := by decide +kernel
theorem dL_law_1219 : decode cL_law 1219 = .ok (.aload_n 2, 1) := by decide +kernel
theorem dL_law_1220 : decode cL_law 1220 = .ok (.invokevirtual 33, 3) := by decide +kernel
theorem dL_law_1223 : decode cL_law 1223 = .ok (.aload_n 1, 1) := by decide +kernel
theorem dL_law_1224 : decode cL_law 1224 = .ok (.invokevirtual 162, 3) := by decide +kernel
theorem dL_law_1227 : decode cL_law 1227 = .ok (.lstore 36, 2) := by decide +kernel
theorem dL_law_1229 : decode cL_law 1229 = .ok (.aload_n 1, 1) := by decide +kernel
theorem dL_law_1230 : decode cL_law 1230 = .ok (.invokevirtual 82, 3) := by decide +kernel
theorem dL_law_1233 : decode cL_law 1233 = .ok (.istore 38, 2) := by decide +kernel
theorem dL_law_1235 : decode cL_law 1235 = .ok (.aload_n 2, 1) := by decide +kernel
theorem dL_law_1236 : decode cL_law 1236 = .ok (.getfield 79, 3) := by decide +kernel
theorem dL_law_1239 : decode cL_law 1239 = .ok (.arraylength, 1) := by decide +kernel
theorem dL_law_1240 : decode cL_law 1240 = .ok (.iconst 1, 1) := by decide +kernel
theorem dL_law_1241 : decode cL_law 1241 = .ok (.isub, 1) := by decide +kernel
theorem dL_law_1242 : decode cL_law 1242 = .ok (.anewarray 85, 3) := by decide +kernel
theorem dL_law_1245 : decode cL_law 1245 = .ok (.astore 39, 2) := by decide +kernel
theorem dL_law_1247 : decode cL_law 1247 = .ok (.iconst 0, 1) := by decide +kernel
theorem dL_law_1248 : decode cL_law 1248 = .ok (.istore 40, 2) := by decide +kernel
theorem dL_law_1250 : decode cL_law 1250 = .ok (.iload 40, 2) := by decide +kernel
theorem dL_law_1252 : decode cL_law 1252 = .ok (.aload 39, 2) := by decide +kernel
theorem dL_law_1254 : decode cL_law 1254 = .ok (.arraylength, 1) := by decide +kernel
theorem dL_law_1255 : decode cL_law 1255 = .ok (.if_icmp .ge 21, 3) := by decide +kernel
theorem dL_law_1258 : decode cL_law 1258 = .ok (.aload 39, 2) := by decide +kernel
theorem dL_law_1260 : decode cL_law 1260 = .ok (.iload 40, 2) := by decide +kernel
theorem dL_law_1262 : decode cL_law 1262 = .ok (.aload_n 2, 1) := by decide +kernel
theorem dL_law_1263 : decode cL_law 1263 = .ok (.getfield 79, 3) := by decide +kernel
theorem dL_law_1266 : decode cL_law 1266 = .ok (.iload 40, 2) := by decide +kernel
theorem dL_law_1268 : decode cL_law 1268 = .ok (.aaload, 1) := by decide +kernel
theorem dL_law_1269 : decode cL_law 1269 = .ok (.aastore, 1) := by decide +kernel
theorem dL_law_1270 : decode cL_law 1270 = .ok (.iinc 40 1, 3) := by decide +kernel
theorem dL_law_1273 : decode cL_law 1273 = .ok (.goto (-23), 3) := by decide +kernel
theorem dL_law_1276 : decode cL_law 1276 = .ok (.aload_n 2, 1) := by decide +kernel
theorem dL_law_1277 : decode cL_law 1277 = .ok (.aload 39, 2) := by decide +kernel
theorem dL_law_1279 : decode cL_law 1279 = .ok (.putfield 79, 3) := by decide +kernel
theorem dL_law_1282 : decode cL_law 1282 = .ok (.aload_n 1, 1) := by decide +kernel
theorem dL_law_1283 : decode cL_law 1283 = .ok (.invokevirtual 162, 3) := by decide +kernel
theorem dL_law_1286 : decode cL_law 1286 = .ok (.lload 36, 2) := by decide +kernel
theorem dL_law_1288 : decode cL_law 1288 = .ok (.iload 35, 2) := by decide +kernel
theorem dL_law_1290 : decode cL_law 1290 = .ok (.i2l, 1) := by decide +kernel
theorem dL_law_1291 : decode cL_law 1291 = .ok (.ladd, 1) := by decide +kernel
theorem dL_law_1292 : decode cL_law 1292 = .ok (.lcmp, 1) := by decide +kernel
theorem dL_law_1293 : decode cL_law 1293 = .ok (.ifCond .ne 54, 3) := by decide +kernel
theorem dL_law_1296 : decode cL_law 1296 = .ok (.iload 38, 2) := by decide +kernel
theorem dL_law_1298 : decode cL_law 1298 = .ok (.iload 8, 2) := by decide +kernel
theorem dL_law_1300 : decode cL_law 1300 = .ok (.if_icmp .gt 47, 3) := by decide +kernel
theorem dL_law_1303 : decode cL_law 1303 = .ok (.iload 35, 2) := by decide +kernel
theorem dL_law_1305 : decode cL_law 1305 = .ok (.ifCond .ne 7, 3) := by decide +kernel
theorem dL_law_1308 : decode cL_law 1308 = .ok (.iconst 1, 1) := by decide +kernel
theorem dL_law_1309 : decode cL_law 1309 = .ok (.goto 4, 3) := by decide +kernel
theorem dL_law_1312 : decode cL_law 1312 = .ok (.iconst 0, 1) := by decide +kernel
theorem dL_law_1313 : decode cL_law 1313 = .ok (.iload 38, 2) := by decide +kernel
theorem dL_law_1315 : decode cL_law 1315 = .ok (.ifCond .ne 7, 3) := by decide +kernel
theorem dL_law_1318 : decode cL_law 1318 = .ok (.iconst 1, 1) := by decide +kernel
theorem dL_law_1319 : decode cL_law 1319 = .ok (.goto 4, 3) := by decide +kernel
theorem dL_law_1322 : decode cL_law 1322 = .ok (.iconst 0, 1) := by decide +kernel
theorem dL_law_1323 : decode cL_law 1323 = .ok (.if_icmp .ne 24, 3) := by decide +kernel
theorem dL_law_1326 : decode cL_law 1326 = .ok (.aload_n 1, 1) := by decide +kernel
theorem dL_law_1327 : decode cL_law 1327 = .ok (.iload 10, 2) := by decide +kernel
theorem dL_law_1329 : decode cL_law 1329 = .ok (.iload 11, 2) := by decide +kernel
theorem dL_law_1331 : decode cL_law 1331 = .ok (.invokevirtual 148, 3) := by decide +kernel
theorem dL_law_1334 : decode cL_law 1334 = .ok (.aload_n 2, 1) := by decide +kernel
theorem dL_law_1335 : decode cL_law 1335 = .ok (.getfield 9, 3) := by decide +kernel
theorem dL_law_1338 : decode cL_law 1338 = .ok (.iload 10, 2) := by decide +kernel
theorem dL_law_1340 : decode cL_law 1340 = .ok (.aaload, 1) := by decide +kernel
theorem dL_law_1341 : decode cL_law 1341 = .ok (.iload 11, 2) := by decide +kernel
theorem dL_law_1343 : decode cL_law 1343 = .ok (.iaload, 1) := by decide +kernel
theorem dL_law_1344 : decode cL_law 1344 = .ok (.if_icmp .eq 5, 3) := by decide +kernel
theorem dL_law_1347 : decode cL_law 1347 = .ok (.iconst 0, 1) := by decide +kernel
theorem dL_law_1348 : decode cL_law 1348 = .ok (.ireturn, 1) := by decide +kernel
theorem dL_law_1349 : decode cL_law 1349 = .ok (.iinc 3 1, 3) := by decide +kernel
theorem dL_law_1352 : decode cL_law 1352 = .ok (.goto (-1330), 3) := by decide +kernel
theorem dL_law_1355 : decode cL_law 1355 = .ok (.aload_n 2, 1) := by decide +kernel
theorem dL_law_1356 : decode cL_law 1356 = .ok (.aload_n 1, 1) := by decide +kernel
theorem dL_law_1357 : decode cL_law 1357 = .ok (.invokevirtual 223, 3) := by decide +kernel
theorem dL_law_1360 : decode cL_law 1360 = .ok (.ireturn, 1) := by decide +kernel

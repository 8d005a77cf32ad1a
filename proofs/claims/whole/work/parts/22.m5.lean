/-! blocks: written by gen/mkblocks.py -/
theorem c253_254 : hs_cal (hs_own 253) 254 = some (0, 227) := by decide +kernel
theorem c254_210 : hs_cal (hs_own 254) 210 = some (0, 220) := by decide +kernel
theorem c254_214 : hs_cal (hs_own 254) 214 = some (0, 209) := by decide +kernel
theorem c254_220 : hs_cal (hs_own 254) 220 = some (0, 248) := by decide +kernel
theorem c254_248 : hs_cal (hs_own 254) 248 = some (0, 256) := by decide +kernel
theorem c254_265 : hs_cal (hs_own 254) 265 = some (0, 255) := by decide +kernel
theorem c255_220 : hs_cal (hs_own 255) 220 = some (0, 248) := by decide +kernel
theorem c255_248 : hs_cal (hs_own 255) 248 = some (0, 256) := by decide +kernel
theorem c256_210 : hs_cal (hs_own 256) 210 = some (0, 220) := by decide +kernel
theorem c256_217 : hs_cal (hs_own 256) 217 = some (0, 222) := by decide +kernel
theorem c256_236 : hs_cal (hs_own 256) 236 = some (0, 245) := by decide +kernel
theorem c256_239 : hs_cal (hs_own 256) 239 = some (0, 228) := by decide +kernel
theorem c256_245 : hs_cal (hs_own 256) 245 = some (6, 0) := by decide +kernel
theorem c258_75 : hs_cal (hs_own 258) 75 = some (0, 197) := by decide +kernel
theorem c260_290 : hs_cal (hs_own 260) 290 = some (0, 208) := by decide +kernel
theorem c260_299 : hs_cal (hs_own 260) 299 = some (0, 258) := by decide +kernel
theorem c260_314 : hs_cal (hs_own 260) 314 = some (0, 261) := by decide +kernel
theorem c261_152 : hs_cal (hs_own 261) 152 = some (0, 240) := by decide +kernel
theorem c261_198 : hs_cal (hs_own 261) 198 = some (0, 243) := by decide +kernel
theorem c261_210 : hs_cal (hs_own 261) 210 = some (0, 220) := by decide +kernel
theorem c261_214 : hs_cal (hs_own 261) 214 = some (0, 209) := by decide +kernel
theorem c261_217 : hs_cal (hs_own 261) 217 = some (0, 222) := by decide +kernel
theorem c261_220 : hs_cal (hs_own 261) 220 = some (0, 248) := by decide +kernel
theorem c261_296 : hs_cal (hs_own 261) 296 = some (0, 257) := by decide +kernel
theorem c261_311 : hs_cal (hs_own 261) 311 = some (0, 262) := by decide +kernel
theorem c261_314 : hs_cal (hs_own 261) 314 = some (0, 261) := by decide +kernel
theorem c262_224 : hs_cal (hs_own 262) 224 = some (0, 221) := by decide +kernel
theorem c262_265 : hs_cal (hs_own 262) 265 = some (0, 255) := by decide +kernel
theorem c262_305 : hs_cal (hs_own 262) 305 = some (0, 263) := by decide +kernel
theorem c263_195 : hs_cal (hs_own 263) 195 = some (0, 241) := by decide +kernel
theorem c263_220 : hs_cal (hs_own 263) 220 = some (0, 248) := by decide +kernel
theorem c263_224 : hs_cal (hs_own 263) 224 = some (0, 221) := by decide +kernel
theorem c263_265 : hs_cal (hs_own 263) 265 = some (0, 255) := by decide +kernel
theorem c263_296 : hs_cal (hs_own 263) 296 = some (0, 257) := by decide +kernel
theorem c264_95 : hs_cal (hs_own 264) 95 = some (1, 223) := by decide +kernel
theorem c264_322 : hs_cal (hs_own 264) 322 = some (0, 265) := by decide +kernel
theorem c264_325 : hs_cal (hs_own 264) 325 = some (0, 266) := by decide +kernel
theorem c264_328 : hs_cal (hs_own 264) 328 = some (0, 267) := by decide +kernel
theorem c264_331 : hs_cal (hs_own 264) 331 = some (0, 268) := by decide +kernel
theorem c264_334 : hs_cal (hs_own 264) 334 = some (0, 269) := by decide +kernel
theorem c264_337 : hs_cal (hs_own 264) 337 = some (0, 270) := by decide +kernel
theorem c267_317 : hs_cal (hs_own 267) 317 = some (7, 0) := by decide +kernel
theorem c271_95 : hs_cal (hs_own 271) 95 = some (1, 223) := by decide +kernel
theorem c271_322 : hs_cal (hs_own 271) 322 = some (0, 265) := by decide +kernel
theorem c271_340 : hs_cal (hs_own 271) 340 = some (0, 272) := by decide +kernel
theorem c272_95 : hs_cal (hs_own 272) 95 = some (1, 223) := by decide +kernel
theorem c273_95 : hs_cal (hs_own 273) 95 = some (1, 223) := by decide +kernel
theorem c273_322 : hs_cal (hs_own 273) 322 = some (0, 265) := by decide +kernel
theorem c273_343 : hs_cal (hs_own 273) 343 = some (0, 274) := by decide +kernel
theorem c274_95 : hs_cal (hs_own 274) 95 = some (1, 223) := by decide +kernel
theorem c275_322 : hs_cal (hs_own 275) 322 = some (0, 265) := by decide +kernel
theorem c276_95 : hs_cal (hs_own 276) 95 = some (1, 223) := by decide +kernel
theorem c276_322 : hs_cal (hs_own 276) 322 = some (0, 265) := by decide +kernel
theorem c277_322 : hs_cal (hs_own 277) 322 = some (0, 265) := by decide +kernel
theorem c277_340 : hs_cal (hs_own 277) 340 = some (0, 272) := by decide +kernel
theorem c277_346 : hs_cal (hs_own 277) 346 = some (0, 278) := by decide +kernel
theorem c277_349 : hs_cal (hs_own 277) 349 = some (0, 279) := by decide +kernel
theorem c278_95 : hs_cal (hs_own 278) 95 = some (1, 223) := by decide +kernel
theorem c280_95 : hs_cal (hs_own 280) 95 = some (1, 223) := by decide +kernel
theorem c280_322 : hs_cal (hs_own 280) 322 = some (0, 265) := by decide +kernel
theorem c281_322 : hs_cal (hs_own 281) 322 = some (0, 265) := by decide +kernel
theorem c281_352 : hs_cal (hs_own 281) 352 = some (0, 282) := by decide +kernel
theorem c281_355 : hs_cal (hs_own 281) 355 = some (0, 198) := by decide +kernel
theorem c282_95 : hs_cal (hs_own 282) 95 = some (1, 223) := by decide +kernel
theorem c283_95 : hs_cal (hs_own 283) 95 = some (1, 223) := by decide +kernel
theorem c283_322 : hs_cal (hs_own 283) 322 = some (0, 265) := by decide +kernel
theorem c283_334 : hs_cal (hs_own 283) 334 = some (0, 269) := by decide +kernel
theorem c283_361 : hs_cal (hs_own 283) 361 = some (0, 284) := by decide +kernel
theorem c284_245 : hs_cal (hs_own 284) 245 = some (6, 0) := by decide +kernel
theorem c284_317 : hs_cal (hs_own 284) 317 = some (7, 0) := by decide +kernel
theorem c285_75 : hs_cal (hs_own 285) 75 = some (0, 197) := by decide +kernel
theorem c285_364 : hs_cal (hs_own 285) 364 = some (0, 286) := by decide +kernel
theorem c287_95 : hs_cal (hs_own 287) 95 = some (1, 223) := by decide +kernel
theorem c287_322 : hs_cal (hs_own 287) 322 = some (0, 265) := by decide +kernel
theorem c287_340 : hs_cal (hs_own 287) 340 = some (0, 272) := by decide +kernel
theorem c288_367 : hs_cal (hs_own 288) 367 = some (0, 289) := by decide +kernel
theorem c288_370 : hs_cal (hs_own 288) 370 = some (0, 290) := by decide +kernel
theorem c289_95 : hs_cal (hs_own 289) 95 = some (1, 223) := by decide +kernel
theorem c289_340 : hs_cal (hs_own 289) 340 = some (0, 272) := by decide +kernel
theorem c291_367 : hs_cal (hs_own 291) 367 = some (0, 289) := by decide +kernel
theorem c291_370 : hs_cal (hs_own 291) 370 = some (0, 290) := by decide +kernel
theorem c291_375 : hs_cal (hs_own 291) 375 = some (0, 292) := by decide +kernel
theorem c292_373 : hs_cal (hs_own 292) 373 = some (8, 0) := by decide +kernel
theorem c293_322 : hs_cal (hs_own 293) 322 = some (0, 265) := by decide +kernel
theorem c293_378 : hs_cal (hs_own 293) 378 = some (0, 294) := by decide +kernel
theorem c295_75 : hs_cal (hs_own 295) 75 = some (0, 197) := by decide +kernel
theorem c295_95 : hs_cal (hs_own 295) 95 = some (1, 223) := by decide +kernel
theorem c295_340 : hs_cal (hs_own 295) 340 = some (0, 272) := by decide +kernel
theorem c295_364 : hs_cal (hs_own 295) 364 = some (0, 286) := by decide +kernel
theorem c296_75 : hs_cal (hs_own 296) 75 = some (0, 197) := by decide +kernel
theorem c296_95 : hs_cal (hs_own 296) 95 = some (1, 223) := by decide +kernel
theorem c296_343 : hs_cal (hs_own 296) 343 = some (0, 274) := by decide +kernel
theorem c297_75 : hs_cal (hs_own 297) 75 = some (0, 197) := by decide +kernel
theorem c297_95 : hs_cal (hs_own 297) 95 = some (1, 223) := by decide +kernel
theorem c298_75 : hs_cal (hs_own 298) 75 = some (0, 197) := by decide +kernel
theorem c298_95 : hs_cal (hs_own 298) 95 = some (1, 223) := by decide +kernel
theorem c298_340 : hs_cal (hs_own 298) 340 = some (0, 272) := by decide +kernel
theorem c298_346 : hs_cal (hs_own 298) 346 = some (0, 278) := by decide +kernel
theorem c298_364 : hs_cal (hs_own 298) 364 = some (0, 286) := by decide +kernel
theorem c299_95 : hs_cal (hs_own 299) 95 = some (1, 223) := by decide +kernel
theorem c299_322 : hs_cal (hs_own 299) 322 = some (0, 265) := by decide +kernel
theorem c300_322 : hs_cal (hs_own 300) 322 = some (0, 265) := by decide +kernel
theorem c300_346 : hs_cal (hs_own 300) 346 = some (0, 278) := by decide +kernel
theorem c300_394 : hs_cal (hs_own 300) 394 = some (0, 301) := by decide +kernel
theorem c301_391 : hs_cal (hs_own 301) 391 = some (0, 302) := by decide +kernel
theorem cl264_320 : hs_kL (hs_own 264) 320 = some 15 := by decide +kernel
theorem cl271_93 : hs_kL (hs_own 271) 93 = some 3 := by decide +kernel
theorem cl282_93 : hs_kL (hs_own 282) 93 = some 3 := by decide +kernel
theorem cl283_359 : hs_kL (hs_own 283) 359 = some 99 := by decide +kernel
theorem cl287_359 : hs_kL (hs_own 287) 359 = some 99 := by decide +kernel
theorem cl289_359 : hs_kL (hs_own 289) 359 = some 99 := by decide +kernel
theorem cl295_381 : hs_kL (hs_own 295) 381 = some 2 := by decide +kernel
theorem cl296_359 : hs_kL (hs_own 296) 359 = some 99 := by decide +kernel
theorem cl297_359 : hs_kL (hs_own 297) 359 = some 99 := by decide +kernel
theorem cl297_383 : hs_kL (hs_own 297) 383 = some 6 := by decide +kernel
theorem cl297_385 : hs_kL (hs_own 297) 385 = some 7 := by decide +kernel
theorem cl297_387 : hs_kL (hs_own 297) 387 = some 16 := by decide +kernel
theorem cl298_93 : hs_kL (hs_own 298) 93 = some 3 := by decide +kernel
theorem cl299_359 : hs_kL (hs_own 299) 359 = some 99 := by decide +kernel
theorem cl299_389 : hs_kL (hs_own 299) 389 = some 9 := by decide +kernel
theorem d253_0 : decode (hs_code 253) 0 = .ok (.aload_n 0, 1) := by decide +kernel
theorem d253_1 : decode (hs_code 253) 1 = .ok (.iconst 4, 1) := by decide +kernel
theorem d253_2 : decode (hs_code 253) 2 = .ok (.bipush 6, 2) := by decide +kernel
theorem d253_4 : decode (hs_code 253) 4 = .ok (.invokevirtual 254, 3) := by decide +kernel
theorem d253_7 : decode (hs_code 253) 7 = .ok (.pop, 1) := by decide +kernel
theorem d253_8 : decode (hs_code 253) 8 = .ok (.aload_n 0, 1) := by decide +kernel
theorem d253_9 : decode (hs_code 253) 9 = .ok (.getfield 204, 3) := by decide +kernel
theorem d253_12 : decode (hs_code 253) 12 = .ok (.ifCond .ne 15, 3) := by decide +kernel
theorem d253_15 : decode (hs_code 253) 15 = .ok (.aload_n 0, 1) := by decide +kernel
theorem d253_16 : decode (hs_code 253) 16 = .ok (.getfield 35, 3) := by decide +kernel
theorem d253_19 : decode (hs_code 253) 19 = .ok (.sipush 1600, 3) := by decide +kernel
theorem d253_22 : decode (hs_code 253) 22 = .ok (.dup2, 1) := by decide +kernel
theorem d253_23 : decode (hs_code 253) 23 = .ok (.iaload, 1) := by decide +kernel
theorem d253_24 : decode (hs_code 253) 24 = .ok (.iconst 1, 1) := by decide +kernel
theorem d253_25 : decode (hs_code 253) 25 = .ok (.iadd, 1) := by decide +kernel
theorem d253_26 : decode (hs_code 253) 26 = .ok (.iastore, 1) := by decide +kernel
theorem d253_27 : decode (hs_code 253) 27 = .ok (.return_, 1) := by decide +kernel
theorem d254_0 : decode (hs_code 254) 0 = .ok (.aload_n 0, 1) := by decide +kernel
theorem d254_1 : decode (hs_code 254) 1 = .ok (.getfield 35, 3) := by decide +kernel
theorem d254_4 : decode (hs_code 254) 4 = .ok (.sipush 1601, 3) := by decide +kernel
theorem d254_7 : decode (hs_code 254) 7 = .ok (.iaload, 1) := by decide +kernel
theorem d254_8 : decode (hs_code 254) 8 = .ok (.istore_n 1, 1) := by decide +kernel
theorem d254_9 : decode (hs_code 254) 9 = .ok (.iload_n 1, 1) := by decide +kernel
theorem d254_10 : decode (hs_code 254) 10 = .ok (.bipush 10, 2) := by decide +kernel
theorem d254_12 : decode (hs_code 254) 12 = .ok (.if_icmp .ne 13, 3) := by decide +kernel
theorem d254_15 : decode (hs_code 254) 15 = .ok (.aload_n 0, 1) := by decide +kernel
theorem d254_16 : decode (hs_code 254) 16 = .ok (.bipush 6, 2) := by decide +kernel
theorem d254_18 : decode (hs_code 254) 18 = .ok (.aload_n 0, 1) := by decide +kernel
theorem d254_19 : decode (hs_code 254) 19 = .ok (.getfield 109, 3) := by decide +kernel
theorem d254_22 : decode (hs_code 254) 22 = .ok (.invokevirtual 210, 3) := by decide +kernel
theorem d254_25 : decode (hs_code 254) 25 = .ok (.aload_n 0, 1) := by decide +kernel
theorem d254_26 : decode (hs_code 254) 26 = .ok (.getfield 204, 3) := by decide +kernel
theorem d254_29 : decode (hs_code 254) 29 = .ok (.ifCond .le 4, 3) := by decide +kernel
theorem d254_32 : decode (hs_code 254) 32 = .ok (.return_, 1) := by decide +kernel
theorem d254_33 : decode (hs_code 254) 33 = .ok (.aload_n 0, 1) := by decide +kernel
theorem d254_34 : decode (hs_code 254) 34 = .ok (.invokevirtual 214, 3) := by decide +kernel
theorem d254_37 : decode (hs_code 254) 37 = .ok (.aload_n 0, 1) := by decide +kernel
theorem d254_38 : decode (hs_code 254) 38 = .ok (.iconst 4, 1) := by decide +kernel
theorem d254_39 : decode (hs_code 254) 39 = .ok (.iconst 4, 1) := by decide +kernel
theorem d254_40 : decode (hs_code 254) 40 = .ok (.invokevirtual 265, 3) := by decide +kernel
theorem d254_43 : decode (hs_code 254) 43 = .ok (.istore_n 2, 1) := by decide +kernel
theorem d254_44 : decode (hs_code 254) 44 = .ok (.aload_n 0, 1) := by decide +kernel
theorem d254_45 : decode (hs_code 254) 45 = .ok (.iconst 4, 1) := by decide +kernel
theorem d254_46 : decode (hs_code 254) 46 = .ok (.iconst 4, 1) := by decide +kernel
theorem d254_47 : decode (hs_code 254) 47 = .ok (.invokevirtual 248, 3) := by decide +kernel
theorem d254_50 : decode (hs_code 254) 50 = .ok (.istore_n 3, 1) := by decide +kernel
theorem d254_51 : decode (hs_code 254) 51 = .ok (.aload_n 0, 1) := by decide +kernel
theorem d254_52 : decode (hs_code 254) 52 = .ok (.getfield 204, 3) := by decide +kernel
theorem d254_55 : decode (hs_code 254) 55 = .ok (.ifCond .ne 17, 3) := by decide +kernel
theorem d254_58 : decode (hs_code 254) 58 = .ok (.iload_n 2, 1) := by decide +kernel
theorem d254_59 : decode (hs_code 254) 59 = .ok (.iload_n 3, 1) := by decide +kernel
theorem d254_60 : decode (hs_code 254) 60 = .ok (.if_icmp .ne 12, 3) := by decide +kernel
theorem d254_63 : decode (hs_code 254) 63 = .ok (.aload_n 0, 1) := by decide +kernel
theorem d254_64 : decode (hs_code 254) 64 = .ok (.iconst 5, 1) := by decide +kernel
theorem d254_65 : decode (hs_code 254) 65 = .ok (.aload_n 0, 1) := by decide +kernel
theorem d254_66 : decode (hs_code 254) 66 = .ok (.getfield 109, 3) := by decide +kernel
theorem d254_69 : decode (hs_code 254) 69 = .ok (.invokevirtual 210, 3) := by decide +kernel
theorem d254_72 : decode (hs_code 254) 72 = .ok (.aload_n 0, 1) := by decide +kernel
theorem d254_73 : decode (hs_code 254) 73 = .ok (.iconst 1, 1) := by decide +kernel
theorem d254_74 : decode (hs_code 254) 74 = .ok (.invokevirtual 220, 3) := by decide +kernel
theorem d254_77 : decode (hs_code 254) 77 = .ok (.aload_n 0, 1) := by decide +kernel
theorem d254_78 : decode (hs_code 254) 78 = .ok (.getfield 204, 3) := by decide +kernel
theorem d254_81 : decode (hs_code 254) 81 = .ok (.ifCond .le 4, 3) := by decide +kernel
theorem d254_84 : decode (hs_code 254) 84 = .ok (.return_, 1) := by decide +kernel
theorem d254_85 : decode (hs_code 254) 85 = .ok (.aload_n 0, 1) := by decide +kernel
theorem d254_86 : decode (hs_code 254) 86 = .ok (.getfield 35, 3) := by decide +kernel
theorem d254_89 : decode (hs_code 254) 89 = .ok (.sipush 1703, 3) := by decide +kernel
theorem d254_92 : decode (hs_code 254) 92 = .ok (.iload_n 1, 1) := by decide +kernel
theorem d254_93 : decode (hs_code 254) 93 = .ok (.iadd, 1) := by decide +kernel
theorem d254_94 : decode (hs_code 254) 94 = .ok (.iload_n 2, 1) := by decide +kernel
theorem d254_95 : decode (hs_code 254) 95 = .ok (.iastore, 1) := by decide +kernel
theorem d254_96 : decode (hs_code 254) 96 = .ok (.aload_n 0, 1) := by decide +kernel
theorem d254_97 : decode (hs_code 254) 97 = .ok (.getfield 35, 3) := by decide +kernel
theorem d254_100 : decode (hs_code 254) 100 = .ok (.sipush 1713, 3) := by decide +kernel
theorem d254_103 : decode (hs_code 254) 103 = .ok (.iload_n 1, 1) := by decide +kernel
theorem d254_104 : decode (hs_code 254) 104 = .ok (.iadd, 1) := by decide +kernel
theorem d254_105 : decode (hs_code 254) 105 = .ok (.iload_n 3, 1) := by decide +kernel
theorem d254_106 : decode (hs_code 254) 106 = .ok (.iastore, 1) := by decide +kernel
theorem d254_107 : decode (hs_code 254) 107 = .ok (.aload_n 0, 1) := by decide +kernel
theorem d254_108 : decode (hs_code 254) 108 = .ok (.getfield 35, 3) := by decide +kernel
theorem d254_111 : decode (hs_code 254) 111 = .ok (.sipush 1601, 3) := by decide +kernel
theorem d254_114 : decode (hs_code 254) 114 = .ok (.dup2, 1) := by decide +kernel
theorem d254_115 : decode (hs_code 254) 115 = .ok (.iaload, 1) := by decide +kernel
theorem d254_116 : decode (hs_code 254) 116 = .ok (.iconst 1, 1) := by decide +kernel
theorem d254_117 : decode (hs_code 254) 117 = .ok (.iadd, 1) := by decide +kernel
theorem d254_118 : decode (hs_code 254) 118 = .ok (.iastore, 1) := by decide +kernel
theorem d254_119 : decode (hs_code 254) 119 = .ok (.return_, 1) := by decide +kernel
theorem d255_0 : decode (hs_code 255) 0 = .ok (.aload_n 0, 1) := by decide +kernel
theorem d255_1 : decode (hs_code 255) 1 = .ok (.iload_n 1, 1) := by decide +kernel
theorem d255_2 : decode (hs_code 255) 2 = .ok (.iload_n 2, 1) := by decide +kernel
theorem d255_3 : decode (hs_code 255) 3 = .ok (.invokevirtual 248, 3) := by decide +kernel
theorem d255_6 : decode (hs_code 255) 6 = .ok (.istore_n 3, 1) := by decide +kernel
theorem d255_7 : decode (hs_code 255) 7 = .ok (.aload_n 0, 1) := by decide +kernel
theorem d255_8 : decode (hs_code 255) 8 = .ok (.iconst 1, 1) := by decide +kernel
theorem d255_9 : decode (hs_code 255) 9 = .ok (.invokevirtual 220, 3) := by decide +kernel
theorem d255_12 : decode (hs_code 255) 12 = .ok (.iload_n 3, 1) := by decide +kernel
theorem d255_13 : decode (hs_code 255) 13 = .ok (.ireturn, 1) := by decide +kernel
theorem d256_0 : decode (hs_code 256) 0 = .ok (.aload_n 0, 1) := by decide +kernel
theorem d256_1 : decode (hs_code 256) 1 = .ok (.getfield 204, 3) := by decide +kernel
theorem d256_4 : decode (hs_code 256) 4 = .ok (.ifCond .ne 14, 3) := by decide +kernel
theorem d256_7 : decode (hs_code 256) 7 = .ok (.aload_n 0, 1) := by decide +kernel
theorem d256_8 : decode (hs_code 256) 8 = .ok (.invokevirtual 239, 3) := by decide +kernel
theorem d256_11 : decode (hs_code 256) 11 = .ok (.ifCond .ne 7, 3) := by decide +kernel
theorem d256_14 : decode (hs_code 256) 14 = .ok (.aload_n 0, 1) := by decide +kernel
theorem d256_15 : decode (hs_code 256) 15 = .ok (.invokevirtual 217, 3) := by decide +kernel
theorem d256_18 : decode (hs_code 256) 18 = .ok (.aload_n 0, 1) := by decide +kernel
theorem d256_19 : decode (hs_code 256) 19 = .ok (.getfield 204, 3) := by decide +kernel
theorem d256_22 : decode (hs_code 256) 22 = .ok (.ifCond .le 5, 3) := by decide +kernel
theorem d256_25 : decode (hs_code 256) 25 = .ok (.iconst 0, 1) := by decide +kernel
theorem d256_26 : decode (hs_code 256) 26 = .ok (.ireturn, 1) := by decide +kernel
theorem d256_27 : decode (hs_code 256) 27 = .ok (.aload_n 0, 1) := by decide +kernel
theorem d256_28 : decode (hs_code 256) 28 = .ok (.iload_n 1, 1) := by decide +kernel
theorem d256_29 : decode (hs_code 256) 29 = .ok (.iload_n 2, 1) := by decide +kernel
theorem d256_30 : decode (hs_code 256) 30 = .ok (.invokevirtual 236, 3) := by decide +kernel
theorem d256_33 : decode (hs_code 256) 33 = .ok (.istore_n 3, 1) := by decide +kernel
theorem d256_34 : decode (hs_code 256) 34 = .ok (.iload_n 3, 1) := by decide +kernel
theorem d256_35 : decode (hs_code 256) 35 = .ok (.ifCond .ge 12, 3) := by decide +kernel
theorem d256_38 : decode (hs_code 256) 38 = .ok (.aload_n 0, 1) := by decide +kernel
theorem d256_39 : decode (hs_code 256) 39 = .ok (.iconst 3, 1) := by decide +kernel
theorem d256_40 : decode (hs_code 256) 40 = .ok (.aload_n 0, 1) := by decide +kernel
theorem d256_41 : decode (hs_code 256) 41 = .ok (.getfield 109, 3) := by decide +kernel
theorem d256_44 : decode (hs_code 256) 44 = .ok (.invokevirtual 210, 3) := by decide +kernel
theorem d256_47 : decode (hs_code 256) 47 = .ok (.iconst 0, 1) := by decide +kernel
theorem d256_48 : decode (hs_code 256) 48 = .ok (.iload_n 3, 1) := by decide +kernel
theorem d256_49 : decode (hs_code 256) 49 = .ok (.invokestatic 245, 3) := by decide +kernel
theorem d256_52 : decode (hs_code 256) 52 = .ok (.ireturn, 1) := by decide +kernel
theorem d257_0 : decode (hs_code 257) 0 = .ok (.aload_n 0, 1) := by decide +kernel
theorem d257_1 : decode (hs_code 257) 1 = .ok (.getfield 115, 3) := by decide +kernel
theorem d257_4 : decode (hs_code 257) 4 = .ok (.iconst 3, 1) := by decide +kernel
theorem d257_5 : decode (hs_code 257) 5 = .ok (.if_icmp .ne 15, 3) := by decide +kernel
theorem d257_8 : decode (hs_code 257) 8 = .ok (.aload_n 0, 1) := by decide +kernel
theorem d257_9 : decode (hs_code 257) 9 = .ok (.getfield 134, 3) := by decide +kernel
theorem d257_12 : decode (hs_code 257) 12 = .ok (.iload_n 1, 1) := by decide +kernel
theorem d257_13 : decode (hs_code 257) 13 = .ok (.if_icmp .ne 7, 3) := by decide +kernel
theorem d257_16 : decode (hs_code 257) 16 = .ok (.iconst 1, 1) := by decide +kernel
theorem d257_17 : decode (hs_code 257) 17 = .ok (.goto 4, 3) := by decide +kernel
theorem d257_20 : decode (hs_code 257) 20 = .ok (.iconst 0, 1) := by decide +kernel
theorem d257_21 : decode (hs_code 257) 21 = .ok (.ireturn, 1) := by decide +kernel
theorem d258_0 : decode (hs_code 258) 0 = .ok (.aload_n 0, 1) := by decide +kernel
theorem d258_1 : decode (hs_code 258) 1 = .ok (.aload_n 0, 1) := by decide +kernel
theorem d258_2 : decode (hs_code 258) 2 = .ok (.getfield 204, 3) := by decide +kernel
theorem d258_5 : decode (hs_code 258) 5 = .ok (.putfield 28, 3) := by decide +kernel
theorem d258_8 : decode (hs_code 258) 8 = .ok (.aload_n 0, 1) := by decide +kernel
theorem d258_9 : decode (hs_code 258) 9 = .ok (.aload_n 0, 1) := by decide +kernel
theorem d258_10 : decode (hs_code 258) 10 = .ok (.getfield 204, 3) := by decide +kernel
theorem d258_13 : decode (hs_code 258) 13 = .ok (.ifCond .ne 7, 3) := by decide +kernel
theorem d258_16 : decode (hs_code 258) 16 = .ok (.iconst (-1), 1) := by decide +kernel
theorem d258_17 : decode (hs_code 258) 17 = .ok (.goto 7, 3) := by decide +kernel
theorem d258_20 : decode (hs_code 258) 20 = .ok (.aload_n 0, 1) := by decide +kernel
theorem d258_21 : decode (hs_code 258) 21 = .ok (.getfield 207, 3) := by decide +kernel
theorem d258_24 : decode (hs_code 258) 24 = .ok (.putfield 32, 3) := by decide +kernel
theorem d258_27 : decode (hs_code 258) 27 = .ok (.aload_n 0, 1) := by decide +kernel
theorem d258_28 : decode (hs_code 258) 28 = .ok (.getfield 204, 3) := by decide +kernel
theorem d258_31 : decode (hs_code 258) 31 = .ok (.ifCond .eq 12, 3) := by decide +kernel
theorem d258_34 : decode (hs_code 258) 34 = .ok (.aload_n 0, 1) := by decide +kernel
theorem d258_35 : decode (hs_code 258) 35 = .ok (.bipush 10, 2) := by decide +kernel
theorem d258_37 : decode (hs_code 258) 37 = .ok (.invokevirtual 75, 3) := by decide +kernel
theorem d258_40 : decode (hs_code 258) 40 = .ok (.ifCond .eq 7, 3) := by decide +kernel
theorem d258_43 : decode (hs_code 258) 43 = .ok (.iconst 1, 1) := by decide +kernel
theorem d258_44 : decode (hs_code 258) 44 = .ok (.goto 4, 3) := by decide +kernel
theorem d258_47 : decode (hs_code 258) 47 = .ok (.iconst 0, 1) := by decide +kernel
theorem d258_48 : decode (hs_code 258) 48 = .ok (.ireturn, 1) := by decide +kernel
theorem d259_0 : decode (hs_code 259) 0 = .ok (.iconst 0, 1) := by decide +kernel
theorem d259_1 : decode (hs_code 259) 1 = .ok (.istore_n 3, 1) := by decide +kernel
theorem d259_2 : decode (hs_code 259) 2 = .ok (.iload_n 3, 1) := by decide +kernel
theorem d259_3 : decode (hs_code 259) 3 = .ok (.sipush 399, 3) := by decide +kernel
theorem d259_6 : decode (hs_code 259) 6 = .ok (.if_icmp .ge 33, 3) := by decide +kernel
theorem d259_9 : decode (hs_code 259) 9 = .ok (.aload_n 0, 1) := by decide +kernel
theorem d259_10 : decode (hs_code 259) 10 = .ok (.getfield 35, 3) := by decide +kernel
theorem d259_13 : decode (hs_code 259) 13 = .ok (.sipush 399, 3) := by decide +kernel
theorem d259_16 : decode (hs_code 259) 16 = .ok (.iload_n 2, 1) := by decide +kernel
theorem d259_17 : decode (hs_code 259) 17 = .ok (.imul, 1) := by decide +kernel
theorem d259_18 : decode (hs_code 259) 18 = .ok (.iload_n 3, 1) := by decide +kernel
theorem d259_19 : decode (hs_code 259) 19 = .ok (.iadd, 1) := by decide +kernel
theorem d259_20 : decode (hs_code 259) 20 = .ok (.aload_n 0, 1) := by decide +kernel
theorem d259_21 : decode (hs_code 259) 21 = .ok (.getfield 35, 3) := by decide +kernel
theorem d259_24 : decode (hs_code 259) 24 = .ok (.sipush 399, 3) := by decide +kernel
theorem d259_27 : decode (hs_code 259) 27 = .ok (.iload_n 1, 1) := by decide +kernel
theorem d259_28 : decode (hs_code 259) 28 = .ok (.imul, 1) := by decide +kernel
theorem d259_29 : decode (hs_code 259) 29 = .ok (.iload_n 3, 1) := by decide +kernel
theorem d259_30 : decode (hs_code 259) 30 = .ok (.iadd, 1) := by decide +kernel
theorem d259_31 : decode (hs_code 259) 31 = .ok (.iaload, 1) := by decide +kernel
theorem d259_32 : decode (hs_code 259) 32 = .ok (.iastore, 1) := by decide +kernel
theorem d259_33 : decode (hs_code 259) 33 = .ok (.iinc 3 1, 3) := by decide +kernel
theorem d259_36 : decode (hs_code 259) 36 = .ok (.goto (-34), 3) := by decide +kernel
theorem d259_39 : decode (hs_code 259) 39 = .ok (.iconst 0, 1) := by decide +kernel
theorem d259_40 : decode (hs_code 259) 40 = .ok (.istore_n 3, 1) := by decide +kernel
theorem d259_41 : decode (hs_code 259) 41 = .ok (.iload_n 3, 1) := by decide +kernel
theorem d259_42 : decode (hs_code 259) 42 = .ok (.bipush 31, 2) := by decide +kernel
theorem d259_44 : decode (hs_code 259) 44 = .ok (.if_icmp .ge 31, 3) := by decide +kernel
theorem d259_47 : decode (hs_code 259) 47 = .ok (.aload_n 0, 1) := by decide +kernel
theorem d259_48 : decode (hs_code 259) 48 = .ok (.getfield 44, 3) := by decide +kernel
theorem d259_51 : decode (hs_code 259) 51 = .ok (.bipush 31, 2) := by decide +kernel
theorem d259_53 : decode (hs_code 259) 53 = .ok (.iload_n 2, 1) := by decide +kernel
theorem d259_54 : decode (hs_code 259) 54 = .ok (.imul, 1) := by decide +kernel
theorem d259_55 : decode (hs_code 259) 55 = .ok (.iload_n 3, 1) := by decide +kernel
theorem d259_56 : decode (hs_code 259) 56 = .ok (.iadd, 1) := by decide +kernel
theorem d259_57 : decode (hs_code 259) 57 = .ok (.aload_n 0, 1) := by decide +kernel
theorem d259_58 : decode (hs_code 259) 58 = .ok (.getfield 44, 3) := by decide +kernel
theorem d259_61 : decode (hs_code 259) 61 = .ok (.bipush 31, 2) := by decide +kernel
theorem d259_63 : decode (hs_code 259) 63 = .ok (.iload_n 1, 1) := by decide +kernel
theorem d259_64 : decode (hs_code 259) 64 = .ok (.imul, 1) := by decide +kernel
theorem d259_65 : decode (hs_code 259) 65 = .ok (.iload_n 3, 1) := by decide +kernel
theorem d259_66 : decode (hs_code 259) 66 = .ok (.iadd, 1) := by decide +kernel
theorem d259_67 : decode (hs_code 259) 67 = .ok (.laload, 1) := by decide +kernel
theorem d259_68 : decode (hs_code 259) 68 = .ok (.lastore, 1) := by decide +kernel
theorem d259_69 : decode (hs_code 259) 69 = .ok (.iinc 3 1, 3) := by decide +kernel
theorem d259_72 : decode (hs_code 259) 72 = .ok (.goto (-31), 3) := by decide +kernel
theorem d259_75 : decode (hs_code 259) 75 = .ok (.return_, 1) := by decide +kernel
theorem d260_0 : decode (hs_code 260) 0 = .ok (.aload_n 0, 1) := by decide +kernel
theorem d260_1 : decode (hs_code 260) 1 = .ok (.iconst 0, 1) := by decide +kernel
theorem d260_2 : decode (hs_code 260) 2 = .ok (.putfield 60, 3) := by decide +kernel
theorem d260_5 : decode (hs_code 260) 5 = .ok (.aload_n 0, 1) := by decide +kernel
theorem d260_6 : decode (hs_code 260) 6 = .ok (.iconst 0, 1) := by decide +kernel
theorem d260_7 : decode (hs_code 260) 7 = .ok (.putfield 63, 3) := by decide +kernel
theorem d260_10 : decode (hs_code 260) 10 = .ok (.aload_n 0, 1) := by decide +kernel
theorem d260_11 : decode (hs_code 260) 11 = .ok (.iload_n 1, 1) := by decide +kernel
theorem d260_12 : decode (hs_code 260) 12 = .ok (.sipush 300, 3) := by decide +kernel
theorem d260_15 : decode (hs_code 260) 15 = .ok (.invokevirtual 290, 3) := by decide +kernel
theorem d260_18 : decode (hs_code 260) 18 = .ok (.ifCond .ne 5, 3) := by decide +kernel
theorem d260_21 : decode (hs_code 260) 21 = .ok (.iconst (-1), 1) := by decide +kernel
theorem d260_22 : decode (hs_code 260) 22 = .ok (.ireturn, 1) := by decide +kernel
theorem d260_23 : decode (hs_code 260) 23 = .ok (.aload_n 0, 1) := by decide +kernel
theorem d260_24 : decode (hs_code 260) 24 = .ok (.iconst 0, 1) := by decide +kernel
theorem d260_25 : decode (hs_code 260) 25 = .ok (.putfield 308, 3) := by decide +kernel
theorem d260_28 : decode (hs_code 260) 28 = .ok (.aload_n 0, 1) := by decide +kernel
theorem d260_29 : decode (hs_code 260) 29 = .ok (.getfield 204, 3) := by decide +kernel
theorem d260_32 : decode (hs_code 260) 32 = .ok (.ifCond .ne 18, 3) := by decide +kernel
theorem d260_35 : decode (hs_code 260) 35 = .ok (.aload_n 0, 1) := by decide +kernel
theorem d260_36 : decode (hs_code 260) 36 = .ok (.getfield 115, 3) := by decide +kernel
theorem d260_39 : decode (hs_code 260) 39 = .ok (.ifCond .eq 11, 3) := by decide +kernel
theorem d260_42 : decode (hs_code 260) 42 = .ok (.aload_n 0, 1) := by decide +kernel
theorem d260_43 : decode (hs_code 260) 43 = .ok (.iconst 0, 1) := by decide +kernel
theorem d260_44 : decode (hs_code 260) 44 = .ok (.invokevirtual 314, 3) := by decide +kernel
theorem d260_47 : decode (hs_code 260) 47 = .ok (.goto (-19), 3) := by decide +kernel
theorem d260_50 : decode (hs_code 260) 50 = .ok (.aload_n 0, 1) := by decide +kernel
theorem d260_51 : decode (hs_code 260) 51 = .ok (.invokevirtual 299, 3) := by decide +kernel
theorem d260_54 : decode (hs_code 260) 54 = .ok (.ifCond .ne 5, 3) := by decide +kernel
theorem d260_57 : decode (hs_code 260) 57 = .ok (.iconst (-1), 1) := by decide +kernel
theorem d260_58 : decode (hs_code 260) 58 = .ok (.ireturn, 1) := by decide +kernel
theorem d260_59 : decode (hs_code 260) 59 = .ok (.aload_n 0, 1) := by decide +kernel
theorem d260_60 : decode (hs_code 260) 60 = .ok (.getfield 35, 3) := by decide +kernel
theorem d260_63 : decode (hs_code 260) 63 = .ok (.bipush 127, 2) := by decide +kernel
theorem d260_65 : decode (hs_code 260) 65 = .ok (.iconst 1, 1) := by decide +kernel
theorem d260_66 : decode (hs_code 260) 66 = .ok (.iastore, 1) := by decide +kernel
theorem d260_67 : decode (hs_code 260) 67 = .ok (.aload_n 0, 1) := by decide +kernel
theorem d260_68 : decode (hs_code 260) 68 = .ok (.getfield 35, 3) := by decide +kernel
theorem d260_71 : decode (hs_code 260) 71 = .ok (.sipush 128, 3) := by decide +kernel
theorem d260_74 : decode (hs_code 260) 74 = .ok (.aload_n 0, 1) := by decide +kernel
theorem d260_75 : decode (hs_code 260) 75 = .ok (.getfield 308, 3) := by decide +kernel
theorem d260_78 : decode (hs_code 260) 78 = .ok (.iastore, 1) := by decide +kernel
theorem d260_79 : decode (hs_code 260) 79 = .ok (.iconst 0, 1) := by decide +kernel
theorem d260_80 : decode (hs_code 260) 80 = .ok (.istore_n 2, 1) := by decide +kernel
theorem d260_81 : decode (hs_code 260) 81 = .ok (.iload_n 2, 1) := by decide +kernel
theorem d260_82 : decode (hs_code 260) 82 = .ok (.bipush 9, 2) := by decide +kernel
theorem d260_84 : decode (hs_code 260) 84 = .ok (.aload_n 0, 1) := by decide +kernel
theorem d260_85 : decode (hs_code 260) 85 = .ok (.getfield 308, 3) := by decide +kernel
theorem d260_88 : decode (hs_code 260) 88 = .ok (.imul, 1) := by decide +kernel
theorem d260_89 : decode (hs_code 260) 89 = .ok (.if_icmp .ge 29, 3) := by decide +kernel
theorem d260_92 : decode (hs_code 260) 92 = .ok (.aload_n 0, 1) := by decide +kernel
theorem d260_93 : decode (hs_code 260) 93 = .ok (.getfield 35, 3) := by decide +kernel
theorem d260_96 : decode (hs_code 260) 96 = .ok (.sipush 129, 3) := by decide +kernel
theorem d260_99 : decode (hs_code 260) 99 = .ok (.iload_n 2, 1) := by decide +kernel
theorem d260_100 : decode (hs_code 260) 100 = .ok (.iadd, 1) := by decide +kernel
theorem d260_101 : decode (hs_code 260) 101 = .ok (.aload_n 0, 1) := by decide +kernel
theorem d260_102 : decode (hs_code 260) 102 = .ok (.getfield 35, 3) := by decide +kernel
theorem d260_105 : decode (hs_code 260) 105 = .ok (.sipush 1725, 3) := by decide +kernel
theorem d260_108 : decode (hs_code 260) 108 = .ok (.iload_n 2, 1) := by decide +kernel
theorem d260_109 : decode (hs_code 260) 109 = .ok (.iadd, 1) := by decide +kernel
theorem d260_110 : decode (hs_code 260) 110 = .ok (.iaload, 1) := by decide +kernel
theorem d260_111 : decode (hs_code 260) 111 = .ok (.iastore, 1) := by decide +kernel
theorem d260_112 : decode (hs_code 260) 112 = .ok (.iinc 2 1, 3) := by decide +kernel
theorem d260_115 : decode (hs_code 260) 115 = .ok (.goto (-34), 3) := by decide +kernel
theorem d260_118 : decode (hs_code 260) 118 = .ok (.aload_n 0, 1) := by decide +kernel
theorem d260_119 : decode (hs_code 260) 119 = .ok (.getfield 308, 3) := by decide +kernel
theorem d260_122 : decode (hs_code 260) 122 = .ok (.ireturn, 1) := by decide +kernel
theorem d261_0 : decode (hs_code 261) 0 = .ok (.aload_n 0, 1) := by decide +kernel
theorem d261_1 : decode (hs_code 261) 1 = .ok (.invokevirtual 152, 3) := by decide +kernel
theorem d261_4 : decode (hs_code 261) 4 = .ok (.istore_n 2, 1) := by decide +kernel
theorem d261_5 : decode (hs_code 261) 5 = .ok (.iload_n 2, 1) := by decide +kernel
theorem d261_6 : decode (hs_code 261) 6 = .ok (.bipush 8, 2) := by decide +kernel
theorem d261_8 : decode (hs_code 261) 8 = .ok (.if_icmp .eq 9, 3) := by decide +kernel
theorem d261_11 : decode (hs_code 261) 11 = .ok (.iload_n 2, 1) := by decide +kernel
theorem d261_12 : decode (hs_code 261) 12 = .ok (.bipush 9, 2) := by decide +kernel
theorem d261_14 : decode (hs_code 261) 14 = .ok (.if_icmp .ne 7, 3) := by decide +kernel
theorem d261_17 : decode (hs_code 261) 17 = .ok (.iconst 1, 1) := by decide +kernel
theorem d261_18 : decode (hs_code 261) 18 = .ok (.goto 4, 3) := by decide +kernel
theorem d261_21 : decode (hs_code 261) 21 = .ok (.iconst 0, 1) := by decide +kernel
theorem d261_22 : decode (hs_code 261) 22 = .ok (.istore_n 3, 1) := by decide +kernel
theorem d261_23 : decode (hs_code 261) 23 = .ok (.iload_n 2, 1) := by decide +kernel
theorem d261_24 : decode (hs_code 261) 24 = .ok (.ifCond .ge 7, 3) := by decide +kernel
theorem d261_27 : decode (hs_code 261) 27 = .ok (.aload_n 0, 1) := by decide +kernel
theorem d261_28 : decode (hs_code 261) 28 = .ok (.invokevirtual 217, 3) := by decide +kernel
theorem d261_31 : decode (hs_code 261) 31 = .ok (.aload_n 0, 1) := by decide +kernel
theorem d261_32 : decode (hs_code 261) 32 = .ok (.getfield 204, 3) := by decide +kernel
theorem d261_35 : decode (hs_code 261) 35 = .ok (.ifCond .ne 22, 3) := by decide +kernel
theorem d261_38 : decode (hs_code 261) 38 = .ok (.aload_n 0, 1) := by decide +kernel
theorem d261_39 : decode (hs_code 261) 39 = .ok (.getfield 308, 3) := by decide +kernel
theorem d261_42 : decode (hs_code 261) 42 = .ok (.bipush 30, 2) := by decide +kernel
theorem d261_44 : decode (hs_code 261) 44 = .ok (.if_icmp .ne 13, 3) := by decide +kernel
theorem d261_47 : decode (hs_code 261) 47 = .ok (.aload_n 0, 1) := by decide +kernel
theorem d261_48 : decode (hs_code 261) 48 = .ok (.bipush 6, 2) := by decide +kernel
theorem d261_50 : decode (hs_code 261) 50 = .ok (.aload_n 0, 1) := by decide +kernel
theorem d261_51 : decode (hs_code 261) 51 = .ok (.getfield 109, 3) := by decide +kernel
theorem d261_54 : decode (hs_code 261) 54 = .ok (.invokevirtual 210, 3) := by decide +kernel
theorem d261_57 : decode (hs_code 261) 57 = .ok (.aload_n 0, 1) := by decide +kernel
theorem d261_58 : decode (hs_code 261) 58 = .ok (.getfield 204, 3) := by decide +kernel
theorem d261_61 : decode (hs_code 261) 61 = .ok (.ifCond .ne 22, 3) := by decide +kernel
theorem d261_64 : decode (hs_code 261) 64 = .ok (.iload_n 3, 1) := by decide +kernel
theorem d261_65 : decode (hs_code 261) 65 = .ok (.ifCond .eq 18, 3) := by decide +kernel
theorem d261_68 : decode (hs_code 261) 68 = .ok (.iload_n 1, 1) := by decide +kernel
theorem d261_69 : decode (hs_code 261) 69 = .ok (.iconst 3, 1) := by decide +kernel
theorem d261_70 : decode (hs_code 261) 70 = .ok (.if_icmp .ne 13, 3) := by decide +kernel
theorem d261_73 : decode (hs_code 261) 73 = .ok (.aload_n 0, 1) := by decide +kernel
theorem d261_74 : decode (hs_code 261) 74 = .ok (.bipush 7, 2) := by decide +kernel
theorem d261_76 : decode (hs_code 261) 76 = .ok (.aload_n 0, 1) := by decide +kernel
theorem d261_77 : decode (hs_code 261) 77 = .ok (.getfield 109, 3) := by decide +kernel
theorem d261_80 : decode (hs_code 261) 80 = .ok (.invokevirtual 210, 3) := by decide +kernel
theorem d261_83 : decode (hs_code 261) 83 = .ok (.aload_n 0, 1) := by decide +kernel
theorem d261_84 : decode (hs_code 261) 84 = .ok (.getfield 204, 3) := by decide +kernel
theorem d261_87 : decode (hs_code 261) 87 = .ok (.ifCond .le 4, 3) := by decide +kernel
theorem d261_90 : decode (hs_code 261) 90 = .ok (.return_, 1) := by decide +kernel
theorem d261_91 : decode (hs_code 261) 91 = .ok (.sipush 1725, 3) := by decide +kernel
theorem d261_94 : decode (hs_code 261) 94 = .ok (.bipush 9, 2) := by decide +kernel
theorem d261_96 : decode (hs_code 261) 96 = .ok (.aload_n 0, 1) := by decide +kernel
theorem d261_97 : decode (hs_code 261) 97 = .ok (.getfield 308, 3) := by decide +kernel
theorem d261_100 : decode (hs_code 261) 100 = .ok (.imul, 1) := by decide +kernel
theorem d261_101 : decode (hs_code 261) 101 = .ok (.iadd, 1) := by decide +kernel
theorem d261_102 : decode (hs_code 261) 102 = .ok (.istore 4, 2) := by decide +kernel
theorem d261_104 : decode (hs_code 261) 104 = .ok (.aload_n 0, 1) := by decide +kernel
theorem d261_105 : decode (hs_code 261) 105 = .ok (.dup, 1) := by decide +kernel
theorem d261_106 : decode (hs_code 261) 106 = .ok (.getfield 308, 3) := by decide +kernel
theorem d261_109 : decode (hs_code 261) 109 = .ok (.iconst 1, 1) := by decide +kernel
theorem d261_110 : decode (hs_code 261) 110 = .ok (.iadd, 1) := by decide +kernel
theorem d261_111 : decode (hs_code 261) 111 = .ok (.putfield 308, 3) := by decide +kernel
theorem d261_114 : decode (hs_code 261) 114 = .ok (.aload_n 0, 1) := by decide +kernel
theorem d261_115 : decode (hs_code 261) 115 = .ok (.invokevirtual 214, 3) := by decide +kernel
theorem d261_118 : decode (hs_code 261) 118 = .ok (.aload_n 0, 1) := by decide +kernel
theorem d261_119 : decode (hs_code 261) 119 = .ok (.getfield 35, 3) := by decide +kernel
theorem d261_122 : decode (hs_code 261) 122 = .ok (.iload 4, 2) := by decide +kernel
theorem d261_124 : decode (hs_code 261) 124 = .ok (.iload_n 2, 1) := by decide +kernel
theorem d261_125 : decode (hs_code 261) 125 = .ok (.iastore, 1) := by decide +kernel
theorem d261_126 : decode (hs_code 261) 126 = .ok (.aload_n 0, 1) := by decide +kernel
theorem d261_127 : decode (hs_code 261) 127 = .ok (.iload 4, 2) := by decide +kernel
theorem d261_129 : decode (hs_code 261) 129 = .ok (.invokevirtual 311, 3) := by decide +kernel
theorem d261_132 : decode (hs_code 261) 132 = .ok (.aload_n 0, 1) := by decide +kernel
theorem d261_133 : decode (hs_code 261) 133 = .ok (.aload_n 0, 1) := by decide +kernel
theorem d261_134 : decode (hs_code 261) 134 = .ok (.bipush 59, 2) := by decide +kernel
theorem d261_136 : decode (hs_code 261) 136 = .ok (.invokevirtual 296, 3) := by decide +kernel
theorem d261_139 : decode (hs_code 261) 139 = .ok (.invokevirtual 220, 3) := by decide +kernel
theorem d261_142 : decode (hs_code 261) 142 = .ok (.iload_n 3, 1) := by decide +kernel
theorem d261_143 : decode (hs_code 261) 143 = .ok (.ifCond .eq 27, 3) := by decide +kernel
theorem d261_146 : decode (hs_code 261) 146 = .ok (.aload_n 0, 1) := by decide +kernel
theorem d261_147 : decode (hs_code 261) 147 = .ok (.getfield 204, 3) := by decide +kernel
theorem d261_150 : decode (hs_code 261) 150 = .ok (.ifCond .ne 20, 3) := by decide +kernel
theorem d261_153 : decode (hs_code 261) 153 = .ok (.aload_n 0, 1) := by decide +kernel
theorem d261_154 : decode (hs_code 261) 154 = .ok (.invokevirtual 198, 3) := by decide +kernel
theorem d261_157 : decode (hs_code 261) 157 = .ok (.ifCond .ne 13, 3) := by decide +kernel
theorem d261_160 : decode (hs_code 261) 160 = .ok (.aload_n 0, 1) := by decide +kernel
theorem d261_161 : decode (hs_code 261) 161 = .ok (.iload_n 1, 1) := by decide +kernel
theorem d261_162 : decode (hs_code 261) 162 = .ok (.iconst 1, 1) := by decide +kernel
theorem d261_163 : decode (hs_code 261) 163 = .ok (.iadd, 1) := by decide +kernel
theorem d261_164 : decode (hs_code 261) 164 = .ok (.invokevirtual 314, 3) := by decide +kernel
theorem d261_167 : decode (hs_code 261) 167 = .ok (.goto (-25), 3) := by decide +kernel
theorem d261_170 : decode (hs_code 261) 170 = .ok (.iload_n 3, 1) := by decide +kernel
theorem d261_171 : decode (hs_code 261) 171 = .ok (.ifCond .eq 21, 3) := by decide +kernel
theorem d261_174 : decode (hs_code 261) 174 = .ok (.aload_n 0, 1) := by decide +kernel
theorem d261_175 : decode (hs_code 261) 175 = .ok (.aload_n 0, 1) := by decide +kernel
theorem d261_176 : decode (hs_code 261) 176 = .ok (.invokevirtual 198, 3) := by decide +kernel
theorem d261_179 : decode (hs_code 261) 179 = .ok (.invokevirtual 220, 3) := by decide +kernel
theorem d261_182 : decode (hs_code 261) 182 = .ok (.aload_n 0, 1) := by decide +kernel
theorem d261_183 : decode (hs_code 261) 183 = .ok (.aload_n 0, 1) := by decide +kernel
theorem d261_184 : decode (hs_code 261) 184 = .ok (.bipush 59, 2) := by decide +kernel
theorem d261_186 : decode (hs_code 261) 186 = .ok (.invokevirtual 296, 3) := by decide +kernel
theorem d261_189 : decode (hs_code 261) 189 = .ok (.invokevirtual 220, 3) := by decide +kernel
theorem d261_192 : decode (hs_code 261) 192 = .ok (.aload_n 0, 1) := by decide +kernel
theorem d261_193 : decode (hs_code 261) 193 = .ok (.getfield 35, 3) := by decide +kernel
theorem d261_196 : decode (hs_code 261) 196 = .ok (.iload 4, 2) := by decide +kernel
theorem d261_198 : decode (hs_code 261) 198 = .ok (.bipush 8, 2) := by decide +kernel
theorem d261_200 : decode (hs_code 261) 200 = .ok (.iadd, 1) := by decide +kernel
theorem d261_201 : decode (hs_code 261) 201 = .ok (.aload_n 0, 1) := by decide +kernel
theorem d261_202 : decode (hs_code 261) 202 = .ok (.getfield 308, 3) := by decide +kernel
theorem d261_205 : decode (hs_code 261) 205 = .ok (.iastore, 1) := by decide +kernel
theorem d261_206 : decode (hs_code 261) 206 = .ok (.return_, 1) := by decide +kernel
theorem d262_0 : decode (hs_code 262) 0 = .ok (.aload_n 0, 1) := by decide +kernel
theorem d262_1 : decode (hs_code 262) 1 = .ok (.getfield 35, 3) := by decide +kernel
theorem d262_4 : decode (hs_code 262) 4 = .ok (.iload_n 1, 1) := by decide +kernel
theorem d262_5 : decode (hs_code 262) 5 = .ok (.iaload, 1) := by decide +kernel
theorem d262_6 : decode (hs_code 262) 6 = .ok (.istore_n 2, 1) := by decide +kernel
theorem d262_7 : decode (hs_code 262) 7 = .ok (.iload_n 2, 1) := by decide +kernel
theorem d262_8 : decode (hs_code 262) 8 = .ok (.ifCond .ne 21, 3) := by decide +kernel
theorem d262_11 : decode (hs_code 262) 11 = .ok (.aload_n 0, 1) := by decide +kernel
theorem d262_12 : decode (hs_code 262) 12 = .ok (.getfield 35, 3) := by decide +kernel
theorem d262_15 : decode (hs_code 262) 15 = .ok (.iload_n 1, 1) := by decide +kernel
theorem d262_16 : decode (hs_code 262) 16 = .ok (.iconst 1, 1) := by decide +kernel
theorem d262_17 : decode (hs_code 262) 17 = .ok (.iadd, 1) := by decide +kernel
theorem d262_18 : decode (hs_code 262) 18 = .ok (.aload_n 0, 1) := by decide +kernel
theorem d262_19 : decode (hs_code 262) 19 = .ok (.iconst 1, 1) := by decide +kernel
theorem d262_20 : decode (hs_code 262) 20 = .ok (.bipush 20, 2) := by decide +kernel
theorem d262_22 : decode (hs_code 262) 22 = .ok (.invokevirtual 224, 3) := by decide +kernel
theorem d262_25 : decode (hs_code 262) 25 = .ok (.iastore, 1) := by decide +kernel
theorem d262_26 : decode (hs_code 262) 26 = .ok (.goto 80, 3) := by decide +kernel
theorem d262_29 : decode (hs_code 262) 29 = .ok (.iload_n 2, 1) := by decide +kernel
theorem d262_30 : decode (hs_code 262) 30 = .ok (.bipush 9, 2) := by decide +kernel
theorem d262_32 : decode (hs_code 262) 32 = .ok (.if_icmp .ne 21, 3) := by decide +kernel
theorem d262_35 : decode (hs_code 262) 35 = .ok (.aload_n 0, 1) := by decide +kernel
theorem d262_36 : decode (hs_code 262) 36 = .ok (.getfield 35, 3) := by decide +kernel
theorem d262_39 : decode (hs_code 262) 39 = .ok (.iload_n 1, 1) := by decide +kernel
theorem d262_40 : decode (hs_code 262) 40 = .ok (.iconst 1, 1) := by decide +kernel
theorem d262_41 : decode (hs_code 262) 41 = .ok (.iadd, 1) := by decide +kernel
theorem d262_42 : decode (hs_code 262) 42 = .ok (.aload_n 0, 1) := by decide +kernel
theorem d262_43 : decode (hs_code 262) 43 = .ok (.iconst 1, 1) := by decide +kernel
theorem d262_44 : decode (hs_code 262) 44 = .ok (.bipush 99, 2) := by decide +kernel
theorem d262_46 : decode (hs_code 262) 46 = .ok (.invokevirtual 224, 3) := by decide +kernel
theorem d262_49 : decode (hs_code 262) 49 = .ok (.iastore, 1) := by decide +kernel
theorem d262_50 : decode (hs_code 262) 50 = .ok (.goto 56, 3) := by decide +kernel
theorem d262_53 : decode (hs_code 262) 53 = .ok (.iload_n 2, 1) := by decide +kernel
theorem d262_54 : decode (hs_code 262) 54 = .ok (.bipush 8, 2) := by decide +kernel
theorem d262_56 : decode (hs_code 262) 56 = .ok (.if_icmp .ne 11, 3) := by decide +kernel
theorem d262_59 : decode (hs_code 262) 59 = .ok (.aload_n 0, 1) := by decide +kernel
theorem d262_60 : decode (hs_code 262) 60 = .ok (.iload_n 1, 1) := by decide +kernel
theorem d262_61 : decode (hs_code 262) 61 = .ok (.invokevirtual 305, 3) := by decide +kernel
theorem d262_64 : decode (hs_code 262) 64 = .ok (.goto 42, 3) := by decide +kernel
theorem d262_67 : decode (hs_code 262) 67 = .ok (.iload_n 2, 1) := by decide +kernel
theorem d262_68 : decode (hs_code 262) 68 = .ok (.iconst 3, 1) := by decide +kernel
theorem d262_69 : decode (hs_code 262) 69 = .ok (.if_icmp .lt 37, 3) := by decide +kernel
theorem d262_72 : decode (hs_code 262) 72 = .ok (.iload_n 2, 1) := by decide +kernel
theorem d262_73 : decode (hs_code 262) 73 = .ok (.iconst 5, 1) := by decide +kernel
theorem d262_74 : decode (hs_code 262) 74 = .ok (.if_icmp .gt 32, 3) := by decide +kernel
theorem d262_77 : decode (hs_code 262) 77 = .ok (.aload_n 0, 1) := by decide +kernel
theorem d262_78 : decode (hs_code 262) 78 = .ok (.getfield 35, 3) := by decide +kernel
theorem d262_81 : decode (hs_code 262) 81 = .ok (.iload_n 1, 1) := by decide +kernel
theorem d262_82 : decode (hs_code 262) 82 = .ok (.iconst 1, 1) := by decide +kernel
theorem d262_83 : decode (hs_code 262) 83 = .ok (.iadd, 1) := by decide +kernel
theorem d262_84 : decode (hs_code 262) 84 = .ok (.aload_n 0, 1) := by decide +kernel
theorem d262_85 : decode (hs_code 262) 85 = .ok (.iconst 0, 1) := by decide +kernel
theorem d262_86 : decode (hs_code 262) 86 = .ok (.iconst 0, 1) := by decide +kernel
theorem d262_87 : decode (hs_code 262) 87 = .ok (.invokevirtual 265, 3) := by decide +kernel
theorem d262_90 : decode (hs_code 262) 90 = .ok (.iastore, 1) := by decide +kernel
theorem d262_91 : decode (hs_code 262) 91 = .ok (.aload_n 0, 1) := by decide +kernel
theorem d262_92 : decode (hs_code 262) 92 = .ok (.getfield 35, 3) := by decide +kernel
theorem d262_95 : decode (hs_code 262) 95 = .ok (.iload_n 1, 1) := by decide +kernel
theorem d262_96 : decode (hs_code 262) 96 = .ok (.iconst 2, 1) := by decide +kernel
theorem d262_97 : decode (hs_code 262) 97 = .ok (.iadd, 1) := by decide +kernel
theorem d262_98 : decode (hs_code 262) 98 = .ok (.aload_n 0, 1) := by decide +kernel
theorem d262_99 : decode (hs_code 262) 99 = .ok (.iconst 0, 1) := by decide +kernel
theorem d262_100 : decode (hs_code 262) 100 = .ok (.bipush 99, 2) := by decide +kernel
theorem d262_102 : decode (hs_code 262) 102 = .ok (.invokevirtual 224, 3) := by decide +kernel
theorem d262_105 : decode (hs_code 262) 105 = .ok (.iastore, 1) := by decide +kernel
theorem d262_106 : decode (hs_code 262) 106 = .ok (.return_, 1) := by decide +kernel
theorem d263_0 : decode (hs_code 263) 0 = .ok (.aload_n 0, 1) := by decide +kernel
theorem d263_1 : decode (hs_code 263) 1 = .ok (.invokevirtual 195, 3) := by decide +kernel
theorem d263_4 : decode (hs_code 263) 4 = .ok (.istore_n 2, 1) := by decide +kernel
theorem d263_5 : decode (hs_code 263) 5 = .ok (.aload_n 0, 1) := by decide +kernel
theorem d263_6 : decode (hs_code 263) 6 = .ok (.iload_n 2, 1) := by decide +kernel
theorem d263_7 : decode (hs_code 263) 7 = .ok (.ifCond .lt 7, 3) := by decide +kernel
theorem d263_10 : decode (hs_code 263) 10 = .ok (.iconst 1, 1) := by decide +kernel
theorem d263_11 : decode (hs_code 263) 11 = .ok (.goto 4, 3) := by decide +kernel
theorem d263_14 : decode (hs_code 263) 14 = .ok (.iconst 0, 1) := by decide +kernel
theorem d263_15 : decode (hs_code 263) 15 = .ok (.invokevirtual 220, 3) := by decide +kernel
theorem d263_18 : decode (hs_code 263) 18 = .ok (.aload_n 0, 1) := by decide +kernel
theorem d263_19 : decode (hs_code 263) 19 = .ok (.getfield 35, 3) := by decide +kernel
theorem d263_22 : decode (hs_code 263) 22 = .ok (.iload_n 1, 1) := by decide +kernel
theorem d263_23 : decode (hs_code 263) 23 = .ok (.bipush 6, 2) := by decide +kernel
theorem d263_25 : decode (hs_code 263) 25 = .ok (.iadd, 1) := by decide +kernel
theorem d263_26 : decode (hs_code 263) 26 = .ok (.iload_n 2, 1) := by decide +kernel
theorem d263_27 : decode (hs_code 263) 27 = .ok (.iastore, 1) := by decide +kernel
theorem d263_28 : decode (hs_code 263) 28 = .ok (.aload_n 0, 1) := by decide +kernel
theorem d263_29 : decode (hs_code 263) 29 = .ok (.getfield 204, 3) := by decide +kernel
theorem d263_32 : decode (hs_code 263) 32 = .ok (.ifCond .gt 8, 3) := by decide +kernel
theorem d263_35 : decode (hs_code 263) 35 = .ok (.iload_n 2, 1) := by decide +kernel
theorem d263_36 : decode (hs_code 263) 36 = .ok (.iconst 2, 1) := by decide +kernel
theorem d263_37 : decode (hs_code 263) 37 = .ok (.if_icmp .ne 4, 3) := by decide +kernel
theorem d263_40 : decode (hs_code 263) 40 = .ok (.return_, 1) := by decide +kernel
theorem d263_41 : decode (hs_code 263) 41 = .ok (.aload_n 0, 1) := by decide +kernel
theorem d263_42 : decode (hs_code 263) 42 = .ok (.getfield 35, 3) := by decide +kernel
theorem d263_45 : decode (hs_code 263) 45 = .ok (.iload_n 1, 1) := by decide +kernel
theorem d263_46 : decode (hs_code 263) 46 = .ok (.iconst 1, 1) := by decide +kernel
theorem d263_47 : decode (hs_code 263) 47 = .ok (.iadd, 1) := by decide +kernel
theorem d263_48 : decode (hs_code 263) 48 = .ok (.aload_n 0, 1) := by decide +kernel
theorem d263_49 : decode (hs_code 263) 49 = .ok (.iconst 0, 1) := by decide +kernel
theorem d263_50 : decode (hs_code 263) 50 = .ok (.iload_n 2, 1) := by decide +kernel
theorem d263_51 : decode (hs_code 263) 51 = .ok (.ifCond .ne 7, 3) := by decide +kernel
theorem d263_54 : decode (hs_code 263) 54 = .ok (.iconst 3, 1) := by decide +kernel
theorem d263_55 : decode (hs_code 263) 55 = .ok (.goto 4, 3) := by decide +kernel
theorem d263_58 : decode (hs_code 263) 58 = .ok (.iconst 0, 1) := by decide +kernel
theorem d263_59 : decode (hs_code 263) 59 = .ok (.invokevirtual 265, 3) := by decide +kernel
theorem d263_62 : decode (hs_code 263) 62 = .ok (.iastore, 1) := by decide +kernel
theorem d263_63 : decode (hs_code 263) 63 = .ok (.aload_n 0, 1) := by decide +kernel
theorem d263_64 : decode (hs_code 263) 64 = .ok (.getfield 204, 3) := by decide +kernel
theorem d263_67 : decode (hs_code 263) 67 = .ok (.ifCond .gt 7, 3) := by decide +kernel
theorem d263_70 : decode (hs_code 263) 70 = .ok (.iload_n 2, 1) := by decide +kernel
theorem d263_71 : decode (hs_code 263) 71 = .ok (.ifCond .ne 4, 3) := by decide +kernel
theorem d263_74 : decode (hs_code 263) 74 = .ok (.return_, 1) := by decide +kernel
theorem d263_75 : decode (hs_code 263) 75 = .ok (.aload_n 0, 1) := by decide +kernel
theorem d263_76 : decode (hs_code 263) 76 = .ok (.getfield 35, 3) := by decide +kernel
theorem d263_79 : decode (hs_code 263) 79 = .ok (.iload_n 1, 1) := by decide +kernel
theorem d263_80 : decode (hs_code 263) 80 = .ok (.bipush 7, 2) := by decide +kernel
theorem d263_82 : decode (hs_code 263) 82 = .ok (.iadd, 1) := by decide +kernel
theorem d263_83 : decode (hs_code 263) 83 = .ok (.aload_n 0, 1) := by decide +kernel
theorem d263_84 : decode (hs_code 263) 84 = .ok (.getfield 115, 3) := by decide +kernel
theorem d263_87 : decode (hs_code 263) 87 = .ok (.iconst 3, 1) := by decide +kernel
theorem d263_88 : decode (hs_code 263) 88 = .ok (.if_icmp .ne 10, 3) := by decide +kernel
theorem d263_91 : decode (hs_code 263) 91 = .ok (.aload_n 0, 1) := by decide +kernel
theorem d263_92 : decode (hs_code 263) 92 = .ok (.getfield 134, 3) := by decide +kernel
theorem d263_95 : decode (hs_code 263) 95 = .ok (.goto 4, 3) := by decide +kernel
theorem d263_98 : decode (hs_code 263) 98 = .ok (.iconst 0, 1) := by decide +kernel
theorem d263_99 : decode (hs_code 263) 99 = .ok (.iastore, 1) := by decide +kernel
theorem d263_100 : decode (hs_code 263) 100 = .ok (.aload_n 0, 1) := by decide +kernel
theorem d263_101 : decode (hs_code 263) 101 = .ok (.aload_n 0, 1) := by decide +kernel
theorem d263_102 : decode (hs_code 263) 102 = .ok (.bipush 60, 2) := by decide +kernel
theorem d263_104 : decode (hs_code 263) 104 = .ok (.invokevirtual 296, 3) := by decide +kernel
theorem d263_107 : decode (hs_code 263) 107 = .ok (.ifCond .ne 21, 3) := by decide +kernel
theorem d263_110 : decode (hs_code 263) 110 = .ok (.aload_n 0, 1) := by decide +kernel
theorem d263_111 : decode (hs_code 263) 111 = .ok (.bipush 62, 2) := by decide +kernel
theorem d263_113 : decode (hs_code 263) 113 = .ok (.invokevirtual 296, 3) := by decide +kernel
theorem d263_116 : decode (hs_code 263) 116 = .ok (.ifCond .ne 12, 3) := by decide +kernel
theorem d263_119 : decode (hs_code 263) 119 = .ok (.aload_n 0, 1) := by decide +kernel
theorem d263_120 : decode (hs_code 263) 120 = .ok (.bipush 61, 2) := by decide +kernel
theorem d263_122 : decode (hs_code 263) 122 = .ok (.invokevirtual 296, 3) := by decide +kernel
theorem d263_125 : decode (hs_code 263) 125 = .ok (.ifCond .eq 7, 3) := by decide +kernel
theorem d263_128 : decode (hs_code 263) 128 = .ok (.iconst 1, 1) := by decide +kernel
theorem d263_129 : decode (hs_code 263) 129 = .ok (.goto 4, 3) := by decide +kernel
theorem d263_132 : decode (hs_code 263) 132 = .ok (.iconst 0, 1) := by decide +kernel
theorem d263_133 : decode (hs_code 263) 133 = .ok (.invokevirtual 220, 3) := by decide +kernel
theorem d263_136 : decode (hs_code 263) 136 = .ok (.aload_n 0, 1) := by decide +kernel
theorem d263_137 : decode (hs_code 263) 137 = .ok (.getfield 35, 3) := by decide +kernel
theorem d263_140 : decode (hs_code 263) 140 = .ok (.iload_n 1, 1) := by decide +kernel
theorem d263_141 : decode (hs_code 263) 141 = .ok (.iconst 2, 1) := by decide +kernel
theorem d263_142 : decode (hs_code 263) 142 = .ok (.iadd, 1) := by decide +kernel
theorem d263_143 : decode (hs_code 263) 143 = .ok (.aload_n 0, 1) := by decide +kernel
theorem d263_144 : decode (hs_code 263) 144 = .ok (.iconst 0, 1) := by decide +kernel
theorem d263_145 : decode (hs_code 263) 145 = .ok (.bipush 99, 2) := by decide +kernel
theorem d263_147 : decode (hs_code 263) 147 = .ok (.invokevirtual 224, 3) := by decide +kernel
theorem d263_150 : decode (hs_code 263) 150 = .ok (.iastore, 1) := by decide +kernel
theorem d263_151 : decode (hs_code 263) 151 = .ok (.return_, 1) := by decide +kernel
theorem d264_0 : decode (hs_code 264) 0 = .ok (.aload_n 0, 1) := by decide +kernel
theorem d264_1 : decode (hs_code 264) 1 = .ok (.iconst 0, 1) := by decide +kernel
theorem d264_2 : decode (hs_code 264) 2 = .ok (.putfield 60, 3) := by decide +kernel
theorem d264_5 : decode (hs_code 264) 5 = .ok (.aload_n 0, 1) := by decide +kernel
theorem d264_6 : decode (hs_code 264) 6 = .ok (.iconst 0, 1) := by decide +kernel
theorem d264_7 : decode (hs_code 264) 7 = .ok (.putfield 63, 3) := by decide +kernel
theorem d264_10 : decode (hs_code 264) 10 = .ok (.iload_n 1, 1) := by decide +kernel
theorem d264_11 : decode (hs_code 264) 11 = .ok (.i2l, 1) := by decide +kernel
theorem d264_12 : decode (hs_code 264) 12 = .ok (.lconst 0, 1) := by decide +kernel
theorem d264_13 : decode (hs_code 264) 13 = .ok (.ldc2_w 320, 3) := by decide +kernel
theorem d264_16 : decode (hs_code 264) 16 = .ok (.invokestatic 95, 3) := by decide +kernel
theorem d264_19 : decode (hs_code 264) 19 = .ok (.ifCond .ne 9, 3) := by decide +kernel
theorem d264_22 : decode (hs_code 264) 22 = .ok (.aload_n 0, 1) := by decide +kernel
theorem d264_23 : decode (hs_code 264) 23 = .ok (.iconst 5, 1) := by decide +kernel
theorem d264_24 : decode (hs_code 264) 24 = .ok (.invokevirtual 322, 3) := by decide +kernel
theorem d264_27 : decode (hs_code 264) 27 = .ok (.ireturn, 1) := by decide +kernel
theorem d264_28 : decode (hs_code 264) 28 = .ok (.iload_n 1, 1) := by decide +kernel
theorem d264_29 : decode (hs_code 264) 29 = .ok (.bipush 10, 2) := by decide +kernel
theorem d264_31 : decode (hs_code 264) 31 = .ok (.if_icmp .ge 10, 3) := by decide +kernel
theorem d264_34 : decode (hs_code 264) 34 = .ok (.aload_n 0, 1) := by decide +kernel
theorem d264_35 : decode (hs_code 264) 35 = .ok (.getfield 35, 3) := by decide +kernel
theorem d264_38 : decode (hs_code 264) 38 = .ok (.iload_n 1, 1) := by decide +kernel
theorem d264_39 : decode (hs_code 264) 39 = .ok (.iaload, 1) := by decide +kernel
theorem d264_40 : decode (hs_code 264) 40 = .ok (.ireturn, 1) := by decide +kernel
theorem d264_41 : decode (hs_code 264) 41 = .ok (.iload_n 1, 1) := by decide +kernel
theorem d264_42 : decode (hs_code 264) 42 = .ok (.bipush 10, 2) := by decide +kernel
theorem d264_44 : decode (hs_code 264) 44 = .ok (.if_icmp .ne 8, 3) := by decide +kernel
theorem d264_47 : decode (hs_code 264) 47 = .ok (.aload_n 0, 1) := by decide +kernel
theorem d264_48 : decode (hs_code 264) 48 = .ok (.invokevirtual 325, 3) := by decide +kernel
theorem d264_51 : decode (hs_code 264) 51 = .ok (.ireturn, 1) := by decide +kernel
theorem d264_52 : decode (hs_code 264) 52 = .ok (.iload_n 1, 1) := by decide +kernel
theorem d264_53 : decode (hs_code 264) 53 = .ok (.bipush 11, 2) := by decide +kernel
theorem d264_55 : decode (hs_code 264) 55 = .ok (.if_icmp .ne 15, 3) := by decide +kernel
theorem d264_58 : decode (hs_code 264) 58 = .ok (.aload_n 0, 1) := by decide +kernel
theorem d264_59 : decode (hs_code 264) 59 = .ok (.aload_n 0, 1) := by decide +kernel
theorem d264_60 : decode (hs_code 264) 60 = .ok (.getfield 35, 3) := by decide +kernel
theorem d264_63 : decode (hs_code 264) 63 = .ok (.bipush 8, 2) := by decide +kernel
theorem d264_65 : decode (hs_code 264) 65 = .ok (.iaload, 1) := by decide +kernel
theorem d264_66 : decode (hs_code 264) 66 = .ok (.invokevirtual 328, 3) := by decide +kernel
theorem d264_69 : decode (hs_code 264) 69 = .ok (.ireturn, 1) := by decide +kernel
theorem d264_70 : decode (hs_code 264) 70 = .ok (.iload_n 1, 1) := by decide +kernel
theorem d264_71 : decode (hs_code 264) 71 = .ok (.bipush 12, 2) := by decide +kernel
theorem d264_73 : decode (hs_code 264) 73 = .ok (.if_icmp .ne 11, 3) := by decide +kernel
theorem d264_76 : decode (hs_code 264) 76 = .ok (.aload_n 0, 1) := by decide +kernel
theorem d264_77 : decode (hs_code 264) 77 = .ok (.iconst 2, 1) := by decide +kernel
theorem d264_78 : decode (hs_code 264) 78 = .ok (.invokevirtual 331, 3) := by decide +kernel
theorem d264_81 : decode (hs_code 264) 81 = .ok (.goto 41, 3) := by decide +kernel
theorem d264_84 : decode (hs_code 264) 84 = .ok (.iload_n 1, 1) := by decide +kernel
theorem d264_85 : decode (hs_code 264) 85 = .ok (.bipush 13, 2) := by decide +kernel
theorem d264_87 : decode (hs_code 264) 87 = .ok (.if_icmp .ne 11, 3) := by decide +kernel
theorem d264_90 : decode (hs_code 264) 90 = .ok (.aload_n 0, 1) := by decide +kernel
theorem d264_91 : decode (hs_code 264) 91 = .ok (.iconst 0, 1) := by decide +kernel
theorem d264_92 : decode (hs_code 264) 92 = .ok (.invokevirtual 331, 3) := by decide +kernel
theorem d264_95 : decode (hs_code 264) 95 = .ok (.goto 27, 3) := by decide +kernel
theorem d264_98 : decode (hs_code 264) 98 = .ok (.iload_n 1, 1) := by decide +kernel
theorem d264_99 : decode (hs_code 264) 99 = .ok (.bipush 14, 2) := by decide +kernel
theorem d264_101 : decode (hs_code 264) 101 = .ok (.if_icmp .ne 17, 3) := by decide +kernel
theorem d264_104 : decode (hs_code 264) 104 = .ok (.aload_n 0, 1) := by decide +kernel
theorem d264_105 : decode (hs_code 264) 105 = .ok (.iconst 0, 1) := by decide +kernel
theorem d264_106 : decode (hs_code 264) 106 = .ok (.aload_n 0, 1) := by decide +kernel
theorem d264_107 : decode (hs_code 264) 107 = .ok (.getfield 35, 3) := by decide +kernel
theorem d264_110 : decode (hs_code 264) 110 = .ok (.iconst 0, 1) := by decide +kernel
theorem d264_111 : decode (hs_code 264) 111 = .ok (.iaload, 1) := by decide +kernel
theorem d264_112 : decode (hs_code 264) 112 = .ok (.invokevirtual 334, 3) := by decide +kernel
theorem d264_115 : decode (hs_code 264) 115 = .ok (.goto 7, 3) := by decide +kernel
theorem d264_118 : decode (hs_code 264) 118 = .ok (.aload_n 0, 1) := by decide +kernel
theorem d264_119 : decode (hs_code 264) 119 = .ok (.invokevirtual 337, 3) := by decide +kernel
theorem d264_122 : decode (hs_code 264) 122 = .ok (.ireturn, 1) := by decide +kernel
theorem d265_0 : decode (hs_code 265) 0 = .ok (.aload_n 0, 1) := by decide +kernel
theorem d265_1 : decode (hs_code 265) 1 = .ok (.iload_n 1, 1) := by decide +kernel
theorem d265_2 : decode (hs_code 265) 2 = .ok (.putfield 63, 3) := by decide +kernel
theorem d265_5 : decode (hs_code 265) 5 = .ok (.iconst (-1), 1) := by decide +kernel
theorem d265_6 : decode (hs_code 265) 6 = .ok (.ireturn, 1) := by decide +kernel
theorem d266_0 : decode (hs_code 266) 0 = .ok (.iconst 0, 1) := by decide +kernel
theorem d266_1 : decode (hs_code 266) 1 = .ok (.istore_n 1, 1) := by decide +kernel
theorem d266_2 : decode (hs_code 266) 2 = .ok (.iconst 0, 1) := by decide +kernel
theorem d266_3 : decode (hs_code 266) 3 = .ok (.istore_n 2, 1) := by decide +kernel
theorem d266_4 : decode (hs_code 266) 4 = .ok (.iload_n 2, 1) := by decide +kernel
theorem d266_5 : decode (hs_code 266) 5 = .ok (.aload_n 0, 1) := by decide +kernel
theorem d266_6 : decode (hs_code 266) 6 = .ok (.getfield 35, 3) := by decide +kernel
theorem d266_9 : decode (hs_code 266) 9 = .ok (.iconst 0, 1) := by decide +kernel
theorem d266_10 : decode (hs_code 266) 10 = .ok (.iaload, 1) := by decide +kernel
theorem d266_11 : decode (hs_code 266) 11 = .ok (.if_icmp .ge 31, 3) := by decide +kernel
theorem d266_14 : decode (hs_code 266) 14 = .ok (.iload_n 1, 1) := by decide +kernel
theorem d266_15 : decode (hs_code 266) 15 = .ok (.aload_n 0, 1) := by decide +kernel
theorem d266_16 : decode (hs_code 266) 16 = .ok (.getfield 35, 3) := by decide +kernel
theorem d266_19 : decode (hs_code 266) 19 = .ok (.bipush 34, 2) := by decide +kernel
theorem d266_21 : decode (hs_code 266) 21 = .ok (.iload_n 2, 1) := by decide +kernel
theorem d266_22 : decode (hs_code 266) 22 = .ok (.iadd, 1) := by decide +kernel
theorem d266_23 : decode (hs_code 266) 23 = .ok (.iaload, 1) := by decide +kernel
theorem d266_24 : decode (hs_code 266) 24 = .ok (.ifCond .le 9, 3) := by decide +kernel
theorem d266_27 : decode (hs_code 266) 27 = .ok (.iconst 1, 1) := by decide +kernel
theorem d266_28 : decode (hs_code 266) 28 = .ok (.iload_n 2, 1) := by decide +kernel
theorem d266_29 : decode (hs_code 266) 29 = .ok (.ishl, 1) := by decide +kernel
theorem d266_30 : decode (hs_code 266) 30 = .ok (.goto 4, 3) := by decide +kernel
theorem d266_33 : decode (hs_code 266) 33 = .ok (.iconst 0, 1) := by decide +kernel
theorem d266_34 : decode (hs_code 266) 34 = .ok (.ior, 1) := by decide +kernel
theorem d266_35 : decode (hs_code 266) 35 = .ok (.istore_n 1, 1) := by decide +kernel
theorem d266_36 : decode (hs_code 266) 36 = .ok (.iinc 2 1, 3) := by decide +kernel
theorem d266_39 : decode (hs_code 266) 39 = .ok (.goto (-35), 3) := by decide +kernel
theorem d266_42 : decode (hs_code 266) 42 = .ok (.iload_n 1, 1) := by decide +kernel
theorem d266_43 : decode (hs_code 266) 43 = .ok (.ireturn, 1) := by decide +kernel
theorem d267_0 : decode (hs_code 267) 0 = .ok (.iload_n 1, 1) := by decide +kernel
theorem d267_1 : decode (hs_code 267) 1 = .ok (.aload_n 0, 1) := by decide +kernel
theorem d267_2 : decode (hs_code 267) 2 = .ok (.getfield 35, 3) := by decide +kernel
theorem d267_5 : decode (hs_code 267) 5 = .ok (.bipush 7, 2) := by decide +kernel
theorem d267_7 : decode (hs_code 267) 7 = .ok (.iaload, 1) := by decide +kernel
theorem d267_8 : decode (hs_code 267) 8 = .ok (.idiv, 1) := by decide +kernel
theorem d267_9 : decode (hs_code 267) 9 = .ok (.istore_n 2, 1) := by decide +kernel
theorem d267_10 : decode (hs_code 267) 10 = .ok (.iconst 0, 1) := by decide +kernel
theorem d267_11 : decode (hs_code 267) 11 = .ok (.istore_n 3, 1) := by decide +kernel
theorem d267_12 : decode (hs_code 267) 12 = .ok (.iconst 0, 1) := by decide +kernel
theorem d267_13 : decode (hs_code 267) 13 = .ok (.istore 4, 2) := by decide +kernel
theorem d267_15 : decode (hs_code 267) 15 = .ok (.iload 4, 2) := by decide +kernel
theorem d267_17 : decode (hs_code 267) 17 = .ok (.aload_n 0, 1) := by decide +kernel
theorem d267_18 : decode (hs_code 267) 18 = .ok (.getfield 35, 3) := by decide +kernel
theorem d267_21 : decode (hs_code 267) 21 = .ok (.iconst 0, 1) := by decide +kernel
theorem d267_22 : decode (hs_code 267) 22 = .ok (.iaload, 1) := by decide +kernel
theorem d267_23 : decode (hs_code 267) 23 = .ok (.if_icmp .ge 40, 3) := by decide +kernel
theorem d267_26 : decode (hs_code 267) 26 = .ok (.iload_n 3, 1) := by decide +kernel
theorem d267_27 : decode (hs_code 267) 27 = .ok (.iload 4, 2) := by decide +kernel
theorem d267_29 : decode (hs_code 267) 29 = .ok (.aload_n 0, 1) := by decide +kernel
theorem d267_30 : decode (hs_code 267) 30 = .ok (.getfield 35, 3) := by decide +kernel
theorem d267_33 : decode (hs_code 267) 33 = .ok (.iconst 0, 1) := by decide +kernel
theorem d267_34 : decode (hs_code 267) 34 = .ok (.iaload, 1) := by decide +kernel
theorem d267_35 : decode (hs_code 267) 35 = .ok (.iconst 1, 1) := by decide +kernel
theorem d267_36 : decode (hs_code 267) 36 = .ok (.isub, 1) := by decide +kernel
theorem d267_37 : decode (hs_code 267) 37 = .ok (.iload 4, 2) := by decide +kernel
theorem d267_39 : decode (hs_code 267) 39 = .ok (.isub, 1) := by decide +kernel
theorem d267_40 : decode (hs_code 267) 40 = .ok (.invokestatic 317, 3) := by decide +kernel
theorem d267_43 : decode (hs_code 267) 43 = .ok (.iload_n 2, 1) := by decide +kernel
theorem d267_44 : decode (hs_code 267) 44 = .ok (.if_icmp .ge 10, 3) := by decide +kernel
theorem d267_47 : decode (hs_code 267) 47 = .ok (.iconst 1, 1) := by decide +kernel
theorem d267_48 : decode (hs_code 267) 48 = .ok (.iload 4, 2) := by decide +kernel
theorem d267_50 : decode (hs_code 267) 50 = .ok (.ishl, 1) := by decide +kernel
theorem d267_51 : decode (hs_code 267) 51 = .ok (.goto 4, 3) := by decide +kernel
theorem d267_54 : decode (hs_code 267) 54 = .ok (.iconst 0, 1) := by decide +kernel
theorem d267_55 : decode (hs_code 267) 55 = .ok (.ior, 1) := by decide +kernel
theorem d267_56 : decode (hs_code 267) 56 = .ok (.istore_n 3, 1) := by decide +kernel
theorem d267_57 : decode (hs_code 267) 57 = .ok (.iinc 4 1, 3) := by decide +kernel
theorem d267_60 : decode (hs_code 267) 60 = .ok (.goto (-45), 3) := by decide +kernel
theorem d267_63 : decode (hs_code 267) 63 = .ok (.iload_n 3, 1) := by decide +kernel
theorem d267_64 : decode (hs_code 267) 64 = .ok (.ireturn, 1) := by decide +kernel
theorem d268_0 : decode (hs_code 268) 0 = .ok (.iconst 0, 1) := by decide +kernel
theorem d268_1 : decode (hs_code 268) 1 = .ok (.istore_n 2, 1) := by decide +kernel
theorem d268_2 : decode (hs_code 268) 2 = .ok (.iconst 0, 1) := by decide +kernel
theorem d268_3 : decode (hs_code 268) 3 = .ok (.istore_n 3, 1) := by decide +kernel
theorem d268_4 : decode (hs_code 268) 4 = .ok (.iload_n 3, 1) := by decide +kernel
theorem d268_5 : decode (hs_code 268) 5 = .ok (.aload_n 0, 1) := by decide +kernel
theorem d268_6 : decode (hs_code 268) 6 = .ok (.getfield 35, 3) := by decide +kernel
theorem d268_9 : decode (hs_code 268) 9 = .ok (.iconst 0, 1) := by decide +kernel
theorem d268_10 : decode (hs_code 268) 10 = .ok (.iaload, 1) := by decide +kernel
theorem d268_11 : decode (hs_code 268) 11 = .ok (.if_icmp .ge 32, 3) := by decide +kernel
theorem d268_14 : decode (hs_code 268) 14 = .ok (.iload_n 2, 1) := by decide +kernel
theorem d268_15 : decode (hs_code 268) 15 = .ok (.aload_n 0, 1) := by decide +kernel
theorem d268_16 : decode (hs_code 268) 16 = .ok (.getfield 35, 3) := by decide +kernel
theorem d268_19 : decode (hs_code 268) 19 = .ok (.bipush 26, 2) := by decide +kernel
theorem d268_21 : decode (hs_code 268) 21 = .ok (.iload_n 3, 1) := by decide +kernel
theorem d268_22 : decode (hs_code 268) 22 = .ok (.iadd, 1) := by decide +kernel
theorem d268_23 : decode (hs_code 268) 23 = .ok (.iaload, 1) := by decide +kernel
theorem d268_24 : decode (hs_code 268) 24 = .ok (.iload_n 1, 1) := by decide +kernel
theorem d268_25 : decode (hs_code 268) 25 = .ok (.if_icmp .ne 9, 3) := by decide +kernel
theorem d268_28 : decode (hs_code 268) 28 = .ok (.iconst 1, 1) := by decide +kernel
theorem d268_29 : decode (hs_code 268) 29 = .ok (.iload_n 3, 1) := by decide +kernel
theorem d268_30 : decode (hs_code 268) 30 = .ok (.ishl, 1) := by decide +kernel
theorem d268_31 : decode (hs_code 268) 31 = .ok (.goto 4, 3) := by decide +kernel
theorem d268_34 : decode (hs_code 268) 34 = .ok (.iconst 0, 1) := by decide +kernel
theorem d268_35 : decode (hs_code 268) 35 = .ok (.ior, 1) := by decide +kernel
theorem d268_36 : decode (hs_code 268) 36 = .ok (.istore_n 2, 1) := by decide +kernel
theorem d268_37 : decode (hs_code 268) 37 = .ok (.iinc 3 1, 3) := by decide +kernel
theorem d268_40 : decode (hs_code 268) 40 = .ok (.goto (-36), 3) := by decide +kernel
theorem d268_43 : decode (hs_code 268) 43 = .ok (.iload_n 2, 1) := by decide +kernel
theorem d268_44 : decode (hs_code 268) 44 = .ok (.ireturn, 1) := by decide +kernel
theorem d269_0 : decode (hs_code 269) 0 = .ok (.iconst 0, 1) := by decide +kernel
theorem d269_1 : decode (hs_code 269) 1 = .ok (.istore_n 3, 1) := by decide +kernel
theorem d269_2 : decode (hs_code 269) 2 = .ok (.iload_n 1, 1) := by decide +kernel
theorem d269_3 : decode (hs_code 269) 3 = .ok (.istore 4, 2) := by decide +kernel
theorem d269_5 : decode (hs_code 269) 5 = .ok (.iload 4, 2) := by decide +kernel
theorem d269_7 : decode (hs_code 269) 7 = .ok (.iload_n 2, 1) := by decide +kernel
theorem d269_8 : decode (hs_code 269) 8 = .ok (.if_icmp .ge 22, 3) := by decide +kernel
theorem d269_11 : decode (hs_code 269) 11 = .ok (.iload_n 3, 1) := by decide +kernel
theorem d269_12 : decode (hs_code 269) 12 = .ok (.aload_n 0, 1) := by decide +kernel
theorem d269_13 : decode (hs_code 269) 13 = .ok (.getfield 35, 3) := by decide +kernel
theorem d269_16 : decode (hs_code 269) 16 = .ok (.bipush 10, 2) := by decide +kernel
theorem d269_18 : decode (hs_code 269) 18 = .ok (.iload 4, 2) := by decide +kernel
theorem d269_20 : decode (hs_code 269) 20 = .ok (.iadd, 1) := by decide +kernel
theorem d269_21 : decode (hs_code 269) 21 = .ok (.iaload, 1) := by decide +kernel
theorem d269_22 : decode (hs_code 269) 22 = .ok (.iadd, 1) := by decide +kernel
theorem d269_23 : decode (hs_code 269) 23 = .ok (.istore_n 3, 1) := by decide +kernel
theorem d269_24 : decode (hs_code 269) 24 = .ok (.iinc 4 1, 3) := by decide +kernel
theorem d269_27 : decode (hs_code 269) 27 = .ok (.goto (-22), 3) := by decide +kernel
theorem d269_30 : decode (hs_code 269) 30 = .ok (.iload_n 3, 1) := by decide +kernel
theorem d269_31 : decode (hs_code 269) 31 = .ok (.ireturn, 1) := by decide +kernel
theorem d270_0 : decode (hs_code 270) 0 = .ok (.iconst 0, 1) := by decide +kernel
theorem d270_1 : decode (hs_code 270) 1 = .ok (.istore_n 1, 1) := by decide +kernel
theorem d270_2 : decode (hs_code 270) 2 = .ok (.iconst 0, 1) := by decide +kernel
theorem d270_3 : decode (hs_code 270) 3 = .ok (.istore_n 2, 1) := by decide +kernel
theorem d270_4 : decode (hs_code 270) 4 = .ok (.iload_n 2, 1) := by decide +kernel
theorem d270_5 : decode (hs_code 270) 5 = .ok (.aload_n 0, 1) := by decide +kernel
theorem d270_6 : decode (hs_code 270) 6 = .ok (.getfield 35, 3) := by decide +kernel
theorem d270_9 : decode (hs_code 270) 9 = .ok (.iconst 1, 1) := by decide +kernel
theorem d270_10 : decode (hs_code 270) 10 = .ok (.iaload, 1) := by decide +kernel
theorem d270_11 : decode (hs_code 270) 11 = .ok (.if_icmp .ge 21, 3) := by decide +kernel
theorem d270_14 : decode (hs_code 270) 14 = .ok (.iload_n 1, 1) := by decide +kernel
theorem d270_15 : decode (hs_code 270) 15 = .ok (.aload_n 0, 1) := by decide +kernel
theorem d270_16 : decode (hs_code 270) 16 = .ok (.getfield 35, 3) := by decide +kernel
theorem d270_19 : decode (hs_code 270) 19 = .ok (.bipush 42, 2) := by decide +kernel
theorem d270_21 : decode (hs_code 270) 21 = .ok (.iload_n 2, 1) := by decide +kernel
theorem d270_22 : decode (hs_code 270) 22 = .ok (.iadd, 1) := by decide +kernel
theorem d270_23 : decode (hs_code 270) 23 = .ok (.iaload, 1) := by decide +kernel
theorem d270_24 : decode (hs_code 270) 24 = .ok (.iadd, 1) := by decide +kernel
theorem d270_25 : decode (hs_code 270) 25 = .ok (.istore_n 1, 1) := by decide +kernel
theorem d270_26 : decode (hs_code 270) 26 = .ok (.iinc 2 1, 3) := by decide +kernel
theorem d270_29 : decode (hs_code 270) 29 = .ok (.goto (-25), 3) := by decide +kernel
theorem d270_32 : decode (hs_code 270) 32 = .ok (.iload_n 1, 1) := by decide +kernel
theorem d270_33 : decode (hs_code 270) 33 = .ok (.ireturn, 1) := by decide +kernel
theorem d271_0 : decode (hs_code 271) 0 = .ok (.aload_n 0, 1) := by decide +kernel
theorem d271_1 : decode (hs_code 271) 1 = .ok (.iconst 0, 1) := by decide +kernel
theorem d271_2 : decode (hs_code 271) 2 = .ok (.putfield 60, 3) := by decide +kernel
theorem d271_5 : decode (hs_code 271) 5 = .ok (.aload_n 0, 1) := by decide +kernel
theorem d271_6 : decode (hs_code 271) 6 = .ok (.iconst 0, 1) := by decide +kernel
theorem d271_7 : decode (hs_code 271) 7 = .ok (.putfield 63, 3) := by decide +kernel
theorem d271_10 : decode (hs_code 271) 10 = .ok (.aload_n 0, 1) := by decide +kernel
theorem d271_11 : decode (hs_code 271) 11 = .ok (.iload_n 1, 1) := by decide +kernel
theorem d271_12 : decode (hs_code 271) 12 = .ok (.invokevirtual 340, 3) := by decide +kernel
theorem d271_15 : decode (hs_code 271) 15 = .ok (.ifCond .ne 9, 3) := by decide +kernel
theorem d271_18 : decode (hs_code 271) 18 = .ok (.aload_n 0, 1) := by decide +kernel
theorem d271_19 : decode (hs_code 271) 19 = .ok (.iconst 2, 1) := by decide +kernel
theorem d271_20 : decode (hs_code 271) 20 = .ok (.invokevirtual 322, 3) := by decide +kernel
theorem d271_23 : decode (hs_code 271) 23 = .ok (.ireturn, 1) := by decide +kernel
theorem d271_24 : decode (hs_code 271) 24 = .ok (.iload_n 2, 1) := by decide +kernel
theorem d271_25 : decode (hs_code 271) 25 = .ok (.i2l, 1) := by decide +kernel
theorem d271_26 : decode (hs_code 271) 26 = .ok (.lconst 0, 1) := by decide +kernel
theorem d271_27 : decode (hs_code 271) 27 = .ok (.ldc2_w 93, 3) := by decide +kernel
theorem d271_30 : decode (hs_code 271) 30 = .ok (.invokestatic 95, 3) := by decide +kernel
theorem d271_33 : decode (hs_code 271) 33 = .ok (.ifCond .eq 20, 3) := by decide +kernel
theorem d271_36 : decode (hs_code 271) 36 = .ok (.aload_n 0, 1) := by decide +kernel
theorem d271_37 : decode (hs_code 271) 37 = .ok (.getfield 35, 3) := by decide +kernel
theorem d271_40 : decode (hs_code 271) 40 = .ok (.bipush 10, 2) := by decide +kernel
theorem d271_42 : decode (hs_code 271) 42 = .ok (.bipush 8, 2) := by decide +kernel
theorem d271_44 : decode (hs_code 271) 44 = .ok (.iload_n 2, 1) := by decide +kernel
theorem d271_45 : decode (hs_code 271) 45 = .ok (.imul, 1) := by decide +kernel
theorem d271_46 : decode (hs_code 271) 46 = .ok (.iadd, 1) := by decide +kernel
theorem d271_47 : decode (hs_code 271) 47 = .ok (.iload_n 1, 1) := by decide +kernel
theorem d271_48 : decode (hs_code 271) 48 = .ok (.iadd, 1) := by decide +kernel
theorem d271_49 : decode (hs_code 271) 49 = .ok (.iaload, 1) := by decide +kernel
theorem d271_50 : decode (hs_code 271) 50 = .ok (.goto 8, 3) := by decide +kernel
theorem d271_53 : decode (hs_code 271) 53 = .ok (.aload_n 0, 1) := by decide +kernel
theorem d271_54 : decode (hs_code 271) 54 = .ok (.iconst 5, 1) := by decide +kernel
theorem d271_55 : decode (hs_code 271) 55 = .ok (.invokevirtual 322, 3) := by decide +kernel
theorem d271_58 : decode (hs_code 271) 58 = .ok (.ireturn, 1) := by decide +kernel
theorem d272_0 : decode (hs_code 272) 0 = .ok (.iload_n 1, 1) := by decide +kernel
theorem d272_1 : decode (hs_code 272) 1 = .ok (.i2l, 1) := by decide +kernel
theorem d272_2 : decode (hs_code 272) 2 = .ok (.lconst 0, 1) := by decide +kernel
theorem d272_3 : decode (hs_code 272) 3 = .ok (.aload_n 0, 1) := by decide +kernel
theorem d272_4 : decode (hs_code 272) 4 = .ok (.getfield 35, 3) := by decide +kernel
theorem d272_7 : decode (hs_code 272) 7 = .ok (.iconst 0, 1) := by decide +kernel
theorem d272_8 : decode (hs_code 272) 8 = .ok (.iaload, 1) := by decide +kernel
theorem d272_9 : decode (hs_code 272) 9 = .ok (.iconst 1, 1) := by decide +kernel
theorem d272_10 : decode (hs_code 272) 10 = .ok (.isub, 1) := by decide +kernel
theorem d272_11 : decode (hs_code 272) 11 = .ok (.i2l, 1) := by decide +kernel
theorem d272_12 : decode (hs_code 272) 12 = .ok (.invokestatic 95, 3) := by decide +kernel
theorem d272_15 : decode (hs_code 272) 15 = .ok (.ireturn, 1) := by decide +kernel
theorem d273_0 : decode (hs_code 273) 0 = .ok (.aload_n 0, 1) := by decide +kernel
theorem d273_1 : decode (hs_code 273) 1 = .ok (.iconst 0, 1) := by decide +kernel
theorem d273_2 : decode (hs_code 273) 2 = .ok (.putfield 60, 3) := by decide +kernel
theorem d273_5 : decode (hs_code 273) 5 = .ok (.aload_n 0, 1) := by decide +kernel
theorem d273_6 : decode (hs_code 273) 6 = .ok (.iconst 0, 1) := by decide +kernel
theorem d273_7 : decode (hs_code 273) 7 = .ok (.putfield 63, 3) := by decide +kernel
theorem d273_10 : decode (hs_code 273) 10 = .ok (.aload_n 0, 1) := by decide +kernel
theorem d273_11 : decode (hs_code 273) 11 = .ok (.iload_n 1, 1) := by decide +kernel
theorem d273_12 : decode (hs_code 273) 12 = .ok (.invokevirtual 343, 3) := by decide +kernel
theorem d273_15 : decode (hs_code 273) 15 = .ok (.ifCond .ne 9, 3) := by decide +kernel
theorem d273_18 : decode (hs_code 273) 18 = .ok (.aload_n 0, 1) := by decide +kernel
theorem d273_19 : decode (hs_code 273) 19 = .ok (.iconst 2, 1) := by decide +kernel
theorem d273_20 : decode (hs_code 273) 20 = .ok (.invokevirtual 322, 3) := by decide +kernel
theorem d273_23 : decode (hs_code 273) 23 = .ok (.ireturn, 1) := by decide +kernel
theorem d273_24 : decode (hs_code 273) 24 = .ok (.iload_n 2, 1) := by decide +kernel
theorem d273_25 : decode (hs_code 273) 25 = .ok (.i2l, 1) := by decide +kernel
theorem d273_26 : decode (hs_code 273) 26 = .ok (.lconst 0, 1) := by decide +kernel
theorem d273_27 : decode (hs_code 273) 27 = .ok (.lconst 1, 1) := by decide +kernel
theorem d273_28 : decode (hs_code 273) 28 = .ok (.invokestatic 95, 3) := by decide +kernel
theorem d273_31 : decode (hs_code 273) 31 = .ok (.ifCond .eq 19, 3) := by decide +kernel
theorem d273_34 : decode (hs_code 273) 34 = .ok (.aload_n 0, 1) := by decide +kernel
theorem d273_35 : decode (hs_code 273) 35 = .ok (.getfield 35, 3) := by decide +kernel
theorem d273_38 : decode (hs_code 273) 38 = .ok (.bipush 42, 2) := by decide +kernel
theorem d273_40 : decode (hs_code 273) 40 = .ok (.iconst 5, 1) := by decide +kernel
theorem d273_41 : decode (hs_code 273) 41 = .ok (.iload_n 2, 1) := by decide +kernel
theorem d273_42 : decode (hs_code 273) 42 = .ok (.imul, 1) := by decide +kernel
theorem d273_43 : decode (hs_code 273) 43 = .ok (.iadd, 1) := by decide +kernel
theorem d273_44 : decode (hs_code 273) 44 = .ok (.iload_n 1, 1) := by decide +kernel
theorem d273_45 : decode (hs_code 273) 45 = .ok (.iadd, 1) := by decide +kernel
theorem d273_46 : decode (hs_code 273) 46 = .ok (.iaload, 1) := by decide +kernel
theorem d273_47 : decode (hs_code 273) 47 = .ok (.goto 8, 3) := by decide +kernel
theorem d273_50 : decode (hs_code 273) 50 = .ok (.aload_n 0, 1) := by decide +kernel
theorem d273_51 : decode (hs_code 273) 51 = .ok (.iconst 5, 1) := by decide +kernel
theorem d273_52 : decode (hs_code 273) 52 = .ok (.invokevirtual 322, 3) := by decide +kernel
theorem d273_55 : decode (hs_code 273) 55 = .ok (.ireturn, 1) := by decide +kernel
theorem d274_0 : decode (hs_code 274) 0 = .ok (.iload_n 1, 1) := by decide +kernel
theorem d274_1 : decode (hs_code 274) 1 = .ok (.i2l, 1) := by decide +kernel
theorem d274_2 : decode (hs_code 274) 2 = .ok (.lconst 0, 1) := by decide +kernel
theorem d274_3 : decode (hs_code 274) 3 = .ok (.aload_n 0, 1) := by decide +kernel
theorem d274_4 : decode (hs_code 274) 4 = .ok (.getfield 35, 3) := by decide +kernel
theorem d274_7 : decode (hs_code 274) 7 = .ok (.iconst 1, 1) := by decide +kernel
theorem d274_8 : decode (hs_code 274) 8 = .ok (.iaload, 1) := by decide +kernel
theorem d274_9 : decode (hs_code 274) 9 = .ok (.iconst 1, 1) := by decide +kernel
theorem d274_10 : decode (hs_code 274) 10 = .ok (.isub, 1) := by decide +kernel
theorem d274_11 : decode (hs_code 274) 11 = .ok (.i2l, 1) := by decide +kernel
theorem d274_12 : decode (hs_code 274) 12 = .ok (.invokestatic 95, 3) := by decide +kernel
theorem d274_15 : decode (hs_code 274) 15 = .ok (.ireturn, 1) := by decide +kernel
theorem d275_0 : decode (hs_code 275) 0 = .ok (.aload_n 0, 1) := by decide +kernel
theorem d275_1 : decode (hs_code 275) 1 = .ok (.iconst 0, 1) := by decide +kernel
theorem d275_2 : decode (hs_code 275) 2 = .ok (.putfield 60, 3) := by decide +kernel
theorem d275_5 : decode (hs_code 275) 5 = .ok (.aload_n 0, 1) := by decide +kernel
theorem d275_6 : decode (hs_code 275) 6 = .ok (.iconst 0, 1) := by decide +kernel
theorem d275_7 : decode (hs_code 275) 7 = .ok (.putfield 63, 3) := by decide +kernel
theorem d275_10 : decode (hs_code 275) 10 = .ok (.aload_n 0, 1) := by decide +kernel
theorem d275_11 : decode (hs_code 275) 11 = .ok (.getfield 35, 3) := by decide +kernel
theorem d275_14 : decode (hs_code 275) 14 = .ok (.iconst 2, 1) := by decide +kernel
theorem d275_15 : decode (hs_code 275) 15 = .ok (.iaload, 1) := by decide +kernel
theorem d275_16 : decode (hs_code 275) 16 = .ok (.ifCond .ne 12, 3) := by decide +kernel
theorem d275_19 : decode (hs_code 275) 19 = .ok (.aload_n 0, 1) := by decide +kernel
theorem d275_20 : decode (hs_code 275) 20 = .ok (.bipush 8, 2) := by decide +kernel
theorem d275_22 : decode (hs_code 275) 22 = .ok (.invokevirtual 322, 3) := by decide +kernel
theorem d275_25 : decode (hs_code 275) 25 = .ok (.goto 10, 3) := by decide +kernel
theorem d275_28 : decode (hs_code 275) 28 = .ok (.aload_n 0, 1) := by decide +kernel
theorem d275_29 : decode (hs_code 275) 29 = .ok (.getfield 35, 3) := by decide +kernel
theorem d275_32 : decode (hs_code 275) 32 = .ok (.bipush 58, 2) := by decide +kernel
theorem d275_34 : decode (hs_code 275) 34 = .ok (.iaload, 1) := by decide +kernel
theorem d275_35 : decode (hs_code 275) 35 = .ok (.ireturn, 1) := by decide +kernel
theorem d276_0 : decode (hs_code 276) 0 = .ok (.aload_n 0, 1) := by decide +kernel
theorem d276_1 : decode (hs_code 276) 1 = .ok (.iconst 0, 1) := by decide +kernel
theorem d276_2 : decode (hs_code 276) 2 = .ok (.putfield 60, 3) := by decide +kernel
theorem d276_5 : decode (hs_code 276) 5 = .ok (.aload_n 0, 1) := by decide +kernel
theorem d276_6 : decode (hs_code 276) 6 = .ok (.iconst 0, 1) := by decide +kernel
theorem d276_7 : decode (hs_code 276) 7 = .ok (.putfield 63, 3) := by decide +kernel
theorem d276_10 : decode (hs_code 276) 10 = .ok (.iload_n 1, 1) := by decide +kernel
theorem d276_11 : decode (hs_code 276) 11 = .ok (.i2l, 1) := by decide +kernel
theorem d276_12 : decode (hs_code 276) 12 = .ok (.lconst 0, 1) := by decide +kernel
theorem d276_13 : decode (hs_code 276) 13 = .ok (.aload_n 0, 1) := by decide +kernel
theorem d276_14 : decode (hs_code 276) 14 = .ok (.getfield 35, 3) := by decide +kernel
theorem d276_17 : decode (hs_code 276) 17 = .ok (.iconst 2, 1) := by decide +kernel
theorem d276_18 : decode (hs_code 276) 18 = .ok (.iaload, 1) := by decide +kernel
theorem d276_19 : decode (hs_code 276) 19 = .ok (.iconst 1, 1) := by decide +kernel
theorem d276_20 : decode (hs_code 276) 20 = .ok (.isub, 1) := by decide +kernel
theorem d276_21 : decode (hs_code 276) 21 = .ok (.i2l, 1) := by decide +kernel
theorem d276_22 : decode (hs_code 276) 22 = .ok (.invokestatic 95, 3) := by decide +kernel
theorem d276_25 : decode (hs_code 276) 25 = .ok (.ifCond .eq 15, 3) := by decide +kernel
theorem d276_28 : decode (hs_code 276) 28 = .ok (.aload_n 0, 1) := by decide +kernel
theorem d276_29 : decode (hs_code 276) 29 = .ok (.getfield 35, 3) := by decide +kernel
theorem d276_32 : decode (hs_code 276) 32 = .ok (.bipush 52, 2) := by decide +kernel
theorem d276_34 : decode (hs_code 276) 34 = .ok (.iload_n 1, 1) := by decide +kernel
theorem d276_35 : decode (hs_code 276) 35 = .ok (.iadd, 1) := by decide +kernel
theorem d276_36 : decode (hs_code 276) 36 = .ok (.iaload, 1) := by decide +kernel
theorem d276_37 : decode (hs_code 276) 37 = .ok (.goto 8, 3) := by decide +kernel
theorem d276_40 : decode (hs_code 276) 40 = .ok (.aload_n 0, 1) := by decide +kernel
theorem d276_41 : decode (hs_code 276) 41 = .ok (.iconst 2, 1) := by decide +kernel
theorem d276_42 : decode (hs_code 276) 42 = .ok (.invokevirtual 322, 3) := by decide +kernel
theorem d276_45 : decode (hs_code 276) 45 = .ok (.ireturn, 1) := by decide +kernel
theorem d277_0 : decode (hs_code 277) 0 = .ok (.aload_n 0, 1) := by decide +kernel
theorem d277_1 : decode (hs_code 277) 1 = .ok (.iconst 0, 1) := by decide +kernel
theorem d277_2 : decode (hs_code 277) 2 = .ok (.putfield 60, 3) := by decide +kernel
theorem d277_5 : decode (hs_code 277) 5 = .ok (.aload_n 0, 1) := by decide +kernel
theorem d277_6 : decode (hs_code 277) 6 = .ok (.iconst 0, 1) := by decide +kernel
theorem d277_7 : decode (hs_code 277) 7 = .ok (.putfield 63, 3) := by decide +kernel
theorem d277_10 : decode (hs_code 277) 10 = .ok (.aload_n 0, 1) := by decide +kernel
theorem d277_11 : decode (hs_code 277) 11 = .ok (.iload_n 1, 1) := by decide +kernel
theorem d277_12 : decode (hs_code 277) 12 = .ok (.invokevirtual 346, 3) := by decide +kernel
theorem d277_15 : decode (hs_code 277) 15 = .ok (.ifCond .eq 20, 3) := by decide +kernel
theorem d277_18 : decode (hs_code 277) 18 = .ok (.aload_n 0, 1) := by decide +kernel
theorem d277_19 : decode (hs_code 277) 19 = .ok (.iload_n 2, 1) := by decide +kernel
theorem d277_20 : decode (hs_code 277) 20 = .ok (.invokevirtual 340, 3) := by decide +kernel
theorem d277_23 : decode (hs_code 277) 23 = .ok (.ifCond .eq 12, 3) := by decide +kernel
theorem d277_26 : decode (hs_code 277) 26 = .ok (.aload_n 0, 1) := by decide +kernel
theorem d277_27 : decode (hs_code 277) 27 = .ok (.iload_n 1, 1) := by decide +kernel
theorem d277_28 : decode (hs_code 277) 28 = .ok (.iload_n 2, 1) := by decide +kernel
theorem d277_29 : decode (hs_code 277) 29 = .ok (.invokevirtual 349, 3) := by decide +kernel
theorem d277_32 : decode (hs_code 277) 32 = .ok (.goto 8, 3) := by decide +kernel
theorem d277_35 : decode (hs_code 277) 35 = .ok (.aload_n 0, 1) := by decide +kernel
theorem d277_36 : decode (hs_code 277) 36 = .ok (.iconst 2, 1) := by decide +kernel
theorem d277_37 : decode (hs_code 277) 37 = .ok (.invokevirtual 322, 3) := by decide +kernel
theorem d277_40 : decode (hs_code 277) 40 = .ok (.ireturn, 1) := by decide +kernel
theorem d278_0 : decode (hs_code 278) 0 = .ok (.iload_n 1, 1) := by decide +kernel
theorem d278_1 : decode (hs_code 278) 1 = .ok (.i2l, 1) := by decide +kernel
theorem d278_2 : decode (hs_code 278) 2 = .ok (.lconst 0, 1) := by decide +kernel
theorem d278_3 : decode (hs_code 278) 3 = .ok (.aload_n 0, 1) := by decide +kernel
theorem d278_4 : decode (hs_code 278) 4 = .ok (.getfield 35, 3) := by decide +kernel
theorem d278_7 : decode (hs_code 278) 7 = .ok (.iconst 3, 1) := by decide +kernel
theorem d278_8 : decode (hs_code 278) 8 = .ok (.iaload, 1) := by decide +kernel
theorem d278_9 : decode (hs_code 278) 9 = .ok (.iconst 1, 1) := by decide +kernel
theorem d278_10 : decode (hs_code 278) 10 = .ok (.isub, 1) := by decide +kernel
theorem d278_11 : decode (hs_code 278) 11 = .ok (.i2l, 1) := by decide +kernel
theorem d278_12 : decode (hs_code 278) 12 = .ok (.invokestatic 95, 3) := by decide +kernel
theorem d278_15 : decode (hs_code 278) 15 = .ok (.ireturn, 1) := by decide +kernel
theorem d279_0 : decode (hs_code 279) 0 = .ok (.aload_n 0, 1) := by decide +kernel
theorem d279_1 : decode (hs_code 279) 1 = .ok (.getfield 35, 3) := by decide +kernel
theorem d279_4 : decode (hs_code 279) 4 = .ok (.bipush 59, 2) := by decide +kernel
theorem d279_6 : decode (hs_code 279) 6 = .ok (.bipush 8, 2) := by decide +kernel
theorem d279_8 : decode (hs_code 279) 8 = .ok (.iload_n 1, 1) := by decide +kernel
theorem d279_9 : decode (hs_code 279) 9 = .ok (.imul, 1) := by decide +kernel
theorem d279_10 : decode (hs_code 279) 10 = .ok (.iadd, 1) := by decide +kernel
theorem d279_11 : decode (hs_code 279) 11 = .ok (.iload_n 2, 1) := by decide +kernel
theorem d279_12 : decode (hs_code 279) 12 = .ok (.iadd, 1) := by decide +kernel
theorem d279_13 : decode (hs_code 279) 13 = .ok (.iaload, 1) := by decide +kernel
theorem d279_14 : decode (hs_code 279) 14 = .ok (.ireturn, 1) := by decide +kernel
theorem d280_0 : decode (hs_code 280) 0 = .ok (.aload_n 0, 1) := by decide +kernel
theorem d280_1 : decode (hs_code 280) 1 = .ok (.iconst 0, 1) := by decide +kernel
theorem d280_2 : decode (hs_code 280) 2 = .ok (.putfield 60, 3) := by decide +kernel
theorem d280_5 : decode (hs_code 280) 5 = .ok (.aload_n 0, 1) := by decide +kernel
theorem d280_6 : decode (hs_code 280) 6 = .ok (.iconst 0, 1) := by decide +kernel
theorem d280_7 : decode (hs_code 280) 7 = .ok (.putfield 63, 3) := by decide +kernel
theorem d280_10 : decode (hs_code 280) 10 = .ok (.iload_n 1, 1) := by decide +kernel
theorem d280_11 : decode (hs_code 280) 11 = .ok (.i2l, 1) := by decide +kernel
theorem d280_12 : decode (hs_code 280) 12 = .ok (.lconst 0, 1) := by decide +kernel
theorem d280_13 : decode (hs_code 280) 13 = .ok (.aload_n 0, 1) := by decide +kernel
theorem d280_14 : decode (hs_code 280) 14 = .ok (.getfield 35, 3) := by decide +kernel
theorem d280_17 : decode (hs_code 280) 17 = .ok (.iconst 5, 1) := by decide +kernel
theorem d280_18 : decode (hs_code 280) 18 = .ok (.iaload, 1) := by decide +kernel
theorem d280_19 : decode (hs_code 280) 19 = .ok (.iconst 1, 1) := by decide +kernel
theorem d280_20 : decode (hs_code 280) 20 = .ok (.isub, 1) := by decide +kernel
theorem d280_21 : decode (hs_code 280) 21 = .ok (.i2l, 1) := by decide +kernel
theorem d280_22 : decode (hs_code 280) 22 = .ok (.invokestatic 95, 3) := by decide +kernel
theorem d280_25 : decode (hs_code 280) 25 = .ok (.ifCond .ne 9, 3) := by decide +kernel
theorem d280_28 : decode (hs_code 280) 28 = .ok (.aload_n 0, 1) := by decide +kernel
theorem d280_29 : decode (hs_code 280) 29 = .ok (.iconst 2, 1) := by decide +kernel
theorem d280_30 : decode (hs_code 280) 30 = .ok (.invokevirtual 322, 3) := by decide +kernel
theorem d280_33 : decode (hs_code 280) 33 = .ok (.ireturn, 1) := by decide +kernel
theorem d280_34 : decode (hs_code 280) 34 = .ok (.iload_n 2, 1) := by decide +kernel
theorem d280_35 : decode (hs_code 280) 35 = .ok (.i2l, 1) := by decide +kernel
theorem d280_36 : decode (hs_code 280) 36 = .ok (.lconst 0, 1) := by decide +kernel
theorem d280_37 : decode (hs_code 280) 37 = .ok (.lconst 1, 1) := by decide +kernel
theorem d280_38 : decode (hs_code 280) 38 = .ok (.invokestatic 95, 3) := by decide +kernel
theorem d280_41 : decode (hs_code 280) 41 = .ok (.ifCond .eq 20, 3) := by decide +kernel
theorem d280_44 : decode (hs_code 280) 44 = .ok (.aload_n 0, 1) := by decide +kernel
theorem d280_45 : decode (hs_code 280) 45 = .ok (.getfield 35, 3) := by decide +kernel
theorem d280_48 : decode (hs_code 280) 48 = .ok (.bipush 107, 2) := by decide +kernel
theorem d280_50 : decode (hs_code 280) 50 = .ok (.bipush 10, 2) := by decide +kernel
theorem d280_52 : decode (hs_code 280) 52 = .ok (.iload_n 2, 1) := by decide +kernel
theorem d280_53 : decode (hs_code 280) 53 = .ok (.imul, 1) := by decide +kernel
theorem d280_54 : decode (hs_code 280) 54 = .ok (.iadd, 1) := by decide +kernel
theorem d280_55 : decode (hs_code 280) 55 = .ok (.iload_n 1, 1) := by decide +kernel
theorem d280_56 : decode (hs_code 280) 56 = .ok (.iadd, 1) := by decide +kernel
theorem d280_57 : decode (hs_code 280) 57 = .ok (.iaload, 1) := by decide +kernel
theorem d280_58 : decode (hs_code 280) 58 = .ok (.goto 8, 3) := by decide +kernel
theorem d280_61 : decode (hs_code 280) 61 = .ok (.aload_n 0, 1) := by decide +kernel
theorem d280_62 : decode (hs_code 280) 62 = .ok (.iconst 5, 1) := by decide +kernel
theorem d280_63 : decode (hs_code 280) 63 = .ok (.invokevirtual 322, 3) := by decide +kernel
theorem d280_66 : decode (hs_code 280) 66 = .ok (.ireturn, 1) := by decide +kernel
theorem d281_0 : decode (hs_code 281) 0 = .ok (.aload_n 0, 1) := by decide +kernel
theorem d281_1 : decode (hs_code 281) 1 = .ok (.iconst 0, 1) := by decide +kernel
theorem d281_2 : decode (hs_code 281) 2 = .ok (.putfield 60, 3) := by decide +kernel
theorem d281_5 : decode (hs_code 281) 5 = .ok (.aload_n 0, 1) := by decide +kernel
theorem d281_6 : decode (hs_code 281) 6 = .ok (.iconst 0, 1) := by decide +kernel
theorem d281_7 : decode (hs_code 281) 7 = .ok (.putfield 63, 3) := by decide +kernel
theorem d281_10 : decode (hs_code 281) 10 = .ok (.aload_n 0, 1) := by decide +kernel
theorem d281_11 : decode (hs_code 281) 11 = .ok (.iload_n 1, 1) := by decide +kernel
theorem d281_12 : decode (hs_code 281) 12 = .ok (.invokevirtual 352, 3) := by decide +kernel
theorem d281_15 : decode (hs_code 281) 15 = .ok (.ifCond .ne 9, 3) := by decide +kernel
theorem d281_18 : decode (hs_code 281) 18 = .ok (.aload_n 0, 1) := by decide +kernel
theorem d281_19 : decode (hs_code 281) 19 = .ok (.iconst 1, 1) := by decide +kernel
theorem d281_20 : decode (hs_code 281) 20 = .ok (.invokevirtual 322, 3) := by decide +kernel
theorem d281_23 : decode (hs_code 281) 23 = .ok (.ireturn, 1) := by decide +kernel
theorem d281_24 : decode (hs_code 281) 24 = .ok (.aload_n 0, 1) := by decide +kernel
theorem d281_25 : decode (hs_code 281) 25 = .ok (.getfield 17, 3) := by decide +kernel
theorem d281_28 : decode (hs_code 281) 28 = .ok (.iload_n 1, 1) := by decide +kernel
theorem d281_29 : decode (hs_code 281) 29 = .ok (.iaload, 1) := by decide +kernel
theorem d281_30 : decode (hs_code 281) 30 = .ok (.ifCond .ge 9, 3) := by decide +kernel
theorem d281_33 : decode (hs_code 281) 33 = .ok (.aload_n 0, 1) := by decide +kernel
theorem d281_34 : decode (hs_code 281) 34 = .ok (.iconst 3, 1) := by decide +kernel
theorem d281_35 : decode (hs_code 281) 35 = .ok (.invokevirtual 322, 3) := by decide +kernel
theorem d281_38 : decode (hs_code 281) 38 = .ok (.ireturn, 1) := by decide +kernel
theorem d281_39 : decode (hs_code 281) 39 = .ok (.aload_n 0, 1) := by decide +kernel
theorem d281_40 : decode (hs_code 281) 40 = .ok (.getfield 17, 3) := by decide +kernel
theorem d281_43 : decode (hs_code 281) 43 = .ok (.iload_n 1, 1) := by decide +kernel
theorem d281_44 : decode (hs_code 281) 44 = .ok (.iaload, 1) := by decide +kernel
theorem d281_45 : decode (hs_code 281) 45 = .ok (.aload_n 0, 1) := by decide +kernel
theorem d281_46 : decode (hs_code 281) 46 = .ok (.getfield 35, 3) := by decide +kernel
theorem d281_49 : decode (hs_code 281) 49 = .ok (.iconst 0, 1) := by decide +kernel
theorem d281_50 : decode (hs_code 281) 50 = .ok (.iaload, 1) := by decide +kernel
theorem d281_51 : decode (hs_code 281) 51 = .ok (.if_icmp .ge 9, 3) := by decide +kernel
theorem d281_54 : decode (hs_code 281) 54 = .ok (.aload_n 0, 1) := by decide +kernel
theorem d281_55 : decode (hs_code 281) 55 = .ok (.iconst 4, 1) := by decide +kernel
theorem d281_56 : decode (hs_code 281) 56 = .ok (.invokevirtual 322, 3) := by decide +kernel
theorem d281_59 : decode (hs_code 281) 59 = .ok (.ireturn, 1) := by decide +kernel
theorem d281_60 : decode (hs_code 281) 60 = .ok (.iconst 0, 1) := by decide +kernel
theorem d281_61 : decode (hs_code 281) 61 = .ok (.istore_n 2, 1) := by decide +kernel
theorem d281_62 : decode (hs_code 281) 62 = .ok (.iload_n 2, 1) := by decide +kernel
theorem d281_63 : decode (hs_code 281) 63 = .ok (.aload_n 0, 1) := by decide +kernel
theorem d281_64 : decode (hs_code 281) 64 = .ok (.getfield 35, 3) := by decide +kernel
theorem d281_67 : decode (hs_code 281) 67 = .ok (.iconst 0, 1) := by decide +kernel
theorem d281_68 : decode (hs_code 281) 68 = .ok (.iaload, 1) := by decide +kernel
theorem d281_69 : decode (hs_code 281) 69 = .ok (.if_icmp .ge 26, 3) := by decide +kernel
theorem d281_72 : decode (hs_code 281) 72 = .ok (.aload_n 0, 1) := by decide +kernel
theorem d281_73 : decode (hs_code 281) 73 = .ok (.iload_n 1, 1) := by decide +kernel
theorem d281_74 : decode (hs_code 281) 74 = .ok (.iload_n 2, 1) := by decide +kernel
theorem d281_75 : decode (hs_code 281) 75 = .ok (.aload_n 0, 1) := by decide +kernel
theorem d281_76 : decode (hs_code 281) 76 = .ok (.getfield 35, 3) := by decide +kernel
theorem d281_79 : decode (hs_code 281) 79 = .ok (.bipush 10, 2) := by decide +kernel
theorem d281_81 : decode (hs_code 281) 81 = .ok (.iload_n 2, 1) := by decide +kernel
theorem d281_82 : decode (hs_code 281) 82 = .ok (.iadd, 1) := by decide +kernel
theorem d281_83 : decode (hs_code 281) 83 = .ok (.iaload, 1) := by decide +kernel
theorem d281_84 : decode (hs_code 281) 84 = .ok (.i2l, 1) := by decide +kernel
theorem d281_85 : decode (hs_code 281) 85 = .ok (.invokevirtual 355, 3) := by decide +kernel
theorem d281_88 : decode (hs_code 281) 88 = .ok (.pop, 1) := by decide +kernel
theorem d281_89 : decode (hs_code 281) 89 = .ok (.iinc 2 1, 3) := by decide +kernel
theorem d281_92 : decode (hs_code 281) 92 = .ok (.goto (-30), 3) := by decide +kernel
theorem d281_95 : decode (hs_code 281) 95 = .ok (.aload_n 0, 1) := by decide +kernel
theorem d281_96 : decode (hs_code 281) 96 = .ok (.getfield 35, 3) := by decide +kernel
theorem d281_99 : decode (hs_code 281) 99 = .ok (.iconst 0, 1) := by decide +kernel
theorem d281_100 : decode (hs_code 281) 100 = .ok (.iaload, 1) := by decide +kernel
theorem d281_101 : decode (hs_code 281) 101 = .ok (.ireturn, 1) := by decide +kernel
theorem d282_0 : decode (hs_code 282) 0 = .ok (.iload_n 1, 1) := by decide +kernel
theorem d282_1 : decode (hs_code 282) 1 = .ok (.i2l, 1) := by decide +kernel
theorem d282_2 : decode (hs_code 282) 2 = .ok (.lconst 0, 1) := by decide +kernel
theorem d282_3 : decode (hs_code 282) 3 = .ok (.ldc2_w 93, 3) := by decide +kernel
theorem d282_6 : decode (hs_code 282) 6 = .ok (.invokestatic 95, 3) := by decide +kernel
theorem d282_9 : decode (hs_code 282) 9 = .ok (.ireturn, 1) := by decide +kernel
theorem d283_0 : decode (hs_code 283) 0 = .ok (.aload_n 0, 1) := by decide +kernel
theorem d283_1 : decode (hs_code 283) 1 = .ok (.iconst 0, 1) := by decide +kernel
theorem d283_2 : decode (hs_code 283) 2 = .ok (.putfield 60, 3) := by decide +kernel
theorem d283_5 : decode (hs_code 283) 5 = .ok (.aload_n 0, 1) := by decide +kernel
theorem d283_6 : decode (hs_code 283) 6 = .ok (.iconst 0, 1) := by decide +kernel
theorem d283_7 : decode (hs_code 283) 7 = .ok (.putfield 63, 3) := by decide +kernel
theorem d283_10 : decode (hs_code 283) 10 = .ok (.iload_n 1, 1) := by decide +kernel
theorem d283_11 : decode (hs_code 283) 11 = .ok (.i2l, 1) := by decide +kernel
theorem d283_12 : decode (hs_code 283) 12 = .ok (.lconst 1, 1) := by decide +kernel
theorem d283_13 : decode (hs_code 283) 13 = .ok (.ldc2_w 359, 3) := by decide +kernel
theorem d283_16 : decode (hs_code 283) 16 = .ok (.invokestatic 95, 3) := by decide +kernel
theorem d283_19 : decode (hs_code 283) 19 = .ok (.ifCond .ne 9, 3) := by decide +kernel
theorem d283_22 : decode (hs_code 283) 22 = .ok (.aload_n 0, 1) := by decide +kernel
theorem d283_23 : decode (hs_code 283) 23 = .ok (.iconst 5, 1) := by decide +kernel
theorem d283_24 : decode (hs_code 283) 24 = .ok (.invokevirtual 322, 3) := by decide +kernel
theorem d283_27 : decode (hs_code 283) 27 = .ok (.ireturn, 1) := by decide +kernel
theorem d283_28 : decode (hs_code 283) 28 = .ok (.aload_n 0, 1) := by decide +kernel
theorem d283_29 : decode (hs_code 283) 29 = .ok (.getfield 35, 3) := by decide +kernel
theorem d283_32 : decode (hs_code 283) 32 = .ok (.bipush 8, 2) := by decide +kernel
theorem d283_34 : decode (hs_code 283) 34 = .ok (.iaload, 1) := by decide +kernel
theorem d283_35 : decode (hs_code 283) 35 = .ok (.iload_n 1, 1) := by decide +kernel
theorem d283_36 : decode (hs_code 283) 36 = .ok (.iadd, 1) := by decide +kernel
theorem d283_37 : decode (hs_code 283) 37 = .ok (.sipush 9999, 3) := by decide +kernel
theorem d283_40 : decode (hs_code 283) 40 = .ok (.if_icmp .le 10, 3) := by decide +kernel
theorem d283_43 : decode (hs_code 283) 43 = .ok (.aload_n 0, 1) := by decide +kernel
theorem d283_44 : decode (hs_code 283) 44 = .ok (.bipush 7, 2) := by decide +kernel
theorem d283_46 : decode (hs_code 283) 46 = .ok (.invokevirtual 322, 3) := by decide +kernel
theorem d283_49 : decode (hs_code 283) 49 = .ok (.ireturn, 1) := by decide +kernel
theorem d283_50 : decode (hs_code 283) 50 = .ok (.iconst 0, 1) := by decide +kernel
theorem d283_51 : decode (hs_code 283) 51 = .ok (.istore_n 2, 1) := by decide +kernel
theorem d283_52 : decode (hs_code 283) 52 = .ok (.iload_n 2, 1) := by decide +kernel
theorem d283_53 : decode (hs_code 283) 53 = .ok (.iload_n 1, 1) := by decide +kernel
theorem d283_54 : decode (hs_code 283) 54 = .ok (.if_icmp .ge 13, 3) := by decide +kernel
theorem d283_57 : decode (hs_code 283) 57 = .ok (.aload_n 0, 1) := by decide +kernel
theorem d283_58 : decode (hs_code 283) 58 = .ok (.invokevirtual 361, 3) := by decide +kernel
theorem d283_61 : decode (hs_code 283) 61 = .ok (.iinc 2 1, 3) := by decide +kernel
theorem d283_64 : decode (hs_code 283) 64 = .ok (.goto (-12), 3) := by decide +kernel
theorem d283_67 : decode (hs_code 283) 67 = .ok (.aload_n 0, 1) := by decide +kernel
theorem d283_68 : decode (hs_code 283) 68 = .ok (.iconst 0, 1) := by decide +kernel
theorem d283_69 : decode (hs_code 283) 69 = .ok (.aload_n 0, 1) := by decide +kernel
theorem d283_70 : decode (hs_code 283) 70 = .ok (.getfield 35, 3) := by decide +kernel
theorem d283_73 : decode (hs_code 283) 73 = .ok (.iconst 0, 1) := by decide +kernel
theorem d283_74 : decode (hs_code 283) 74 = .ok (.iaload, 1) := by decide +kernel
theorem d283_75 : decode (hs_code 283) 75 = .ok (.invokevirtual 334, 3) := by decide +kernel
theorem d283_78 : decode (hs_code 283) 78 = .ok (.ireturn, 1) := by decide +kernel
theorem d284_0 : decode (hs_code 284) 0 = .ok (.aload_n 0, 1) := by decide +kernel
theorem d284_1 : decode (hs_code 284) 1 = .ok (.getfield 35, 3) := by decide +kernel
theorem d284_4 : decode (hs_code 284) 4 = .ok (.iconst 2, 1) := by decide +kernel
theorem d284_5 : decode (hs_code 284) 5 = .ok (.iaload, 1) := by decide +kernel
theorem d284_6 : decode (hs_code 284) 6 = .ok (.ifCond .ne 7, 3) := by decide +kernel
theorem d284_9 : decode (hs_code 284) 9 = .ok (.iconst 0, 1) := by decide +kernel
theorem d284_10 : decode (hs_code 284) 10 = .ok (.goto 18, 3) := by decide +kernel
theorem d284_13 : decode (hs_code 284) 13 = .ok (.aload_n 0, 1) := by decide +kernel
theorem d284_14 : decode (hs_code 284) 14 = .ok (.getfield 35, 3) := by decide +kernel
theorem d284_17 : decode (hs_code 284) 17 = .ok (.bipush 52, 2) := by decide +kernel
theorem d284_19 : decode (hs_code 284) 19 = .ok (.aload_n 0, 1) := by decide +kernel
theorem d284_20 : decode (hs_code 284) 20 = .ok (.getfield 35, 3) := by decide +kernel
theorem d284_23 : decode (hs_code 284) 23 = .ok (.bipush 58, 2) := by decide +kernel
theorem d284_25 : decode (hs_code 284) 25 = .ok (.iaload, 1) := by decide +kernel
theorem d284_26 : decode (hs_code 284) 26 = .ok (.iadd, 1) := by decide +kernel
theorem d284_27 : decode (hs_code 284) 27 = .ok (.iaload, 1) := by decide +kernel
theorem d284_28 : decode (hs_code 284) 28 = .ok (.istore_n 1, 1) := by decide +kernel
theorem d284_29 : decode (hs_code 284) 29 = .ok (.iconst 0, 1) := by decide +kernel
theorem d284_30 : decode (hs_code 284) 30 = .ok (.istore_n 2, 1) := by decide +kernel
theorem d284_31 : decode (hs_code 284) 31 = .ok (.iload_n 2, 1) := by decide +kernel
theorem d284_32 : decode (hs_code 284) 32 = .ok (.aload_n 0, 1) := by decide +kernel
theorem d284_33 : decode (hs_code 284) 33 = .ok (.getfield 35, 3) := by decide +kernel
theorem d284_36 : decode (hs_code 284) 36 = .ok (.iconst 0, 1) := by decide +kernel
theorem d284_37 : decode (hs_code 284) 37 = .ok (.iaload, 1) := by decide +kernel
theorem d284_38 : decode (hs_code 284) 38 = .ok (.if_icmp .ge 125, 3) := by decide +kernel
theorem d284_41 : decode (hs_code 284) 41 = .ok (.aload_n 0, 1) := by decide +kernel
theorem d284_42 : decode (hs_code 284) 42 = .ok (.getfield 35, 3) := by decide +kernel
theorem d284_45 : decode (hs_code 284) 45 = .ok (.bipush 10, 2) := by decide +kernel
theorem d284_47 : decode (hs_code 284) 47 = .ok (.iload_n 2, 1) := by decide +kernel
theorem d284_48 : decode (hs_code 284) 48 = .ok (.iadd, 1) := by decide +kernel
theorem d284_49 : decode (hs_code 284) 49 = .ok (.bipush 99, 2) := by decide +kernel
theorem d284_51 : decode (hs_code 284) 51 = .ok (.aload_n 0, 1) := by decide +kernel
theorem d284_52 : decode (hs_code 284) 52 = .ok (.getfield 35, 3) := by decide +kernel
theorem d284_55 : decode (hs_code 284) 55 = .ok (.bipush 10, 2) := by decide +kernel
theorem d284_57 : decode (hs_code 284) 57 = .ok (.iload_n 2, 1) := by decide +kernel
theorem d284_58 : decode (hs_code 284) 58 = .ok (.iadd, 1) := by decide +kernel
theorem d284_59 : decode (hs_code 284) 59 = .ok (.iaload, 1) := by decide +kernel
theorem d284_60 : decode (hs_code 284) 60 = .ok (.aload_n 0, 1) := by decide +kernel
theorem d284_61 : decode (hs_code 284) 61 = .ok (.getfield 35, 3) := by decide +kernel
theorem d284_64 : decode (hs_code 284) 64 = .ok (.bipush 18, 2) := by decide +kernel
theorem d284_66 : decode (hs_code 284) 66 = .ok (.iload_n 2, 1) := by decide +kernel
theorem d284_67 : decode (hs_code 284) 67 = .ok (.iadd, 1) := by decide +kernel
theorem d284_68 : decode (hs_code 284) 68 = .ok (.iaload, 1) := by decide +kernel
theorem d284_69 : decode (hs_code 284) 69 = .ok (.iadd, 1) := by decide +kernel
theorem d284_70 : decode (hs_code 284) 70 = .ok (.iload_n 1, 1) := by decide +kernel
theorem d284_71 : decode (hs_code 284) 71 = .ok (.iadd, 1) := by decide +kernel
theorem d284_72 : decode (hs_code 284) 72 = .ok (.invokestatic 317, 3) := by decide +kernel
theorem d284_75 : decode (hs_code 284) 75 = .ok (.iastore, 1) := by decide +kernel
theorem d284_76 : decode (hs_code 284) 76 = .ok (.aload_n 0, 1) := by decide +kernel
theorem d284_77 : decode (hs_code 284) 77 = .ok (.getfield 35, 3) := by decide +kernel
theorem d284_80 : decode (hs_code 284) 80 = .ok (.bipush 34, 2) := by decide +kernel
theorem d284_82 : decode (hs_code 284) 82 = .ok (.iload_n 2, 1) := by decide +kernel
theorem d284_83 : decode (hs_code 284) 83 = .ok (.iadd, 1) := by decide +kernel
theorem d284_84 : decode (hs_code 284) 84 = .ok (.iaload, 1) := by decide +kernel
theorem d284_85 : decode (hs_code 284) 85 = .ok (.ifCond .le 19, 3) := by decide +kernel
theorem d284_88 : decode (hs_code 284) 88 = .ok (.aload_n 0, 1) := by decide +kernel
theorem d284_89 : decode (hs_code 284) 89 = .ok (.getfield 35, 3) := by decide +kernel
theorem d284_92 : decode (hs_code 284) 92 = .ok (.bipush 34, 2) := by decide +kernel
theorem d284_94 : decode (hs_code 284) 94 = .ok (.iload_n 2, 1) := by decide +kernel
theorem d284_95 : decode (hs_code 284) 95 = .ok (.iadd, 1) := by decide +kernel
theorem d284_96 : decode (hs_code 284) 96 = .ok (.dup2, 1) := by decide +kernel
theorem d284_97 : decode (hs_code 284) 97 = .ok (.iaload, 1) := by decide +kernel
theorem d284_98 : decode (hs_code 284) 98 = .ok (.iconst 1, 1) := by decide +kernel
theorem d284_99 : decode (hs_code 284) 99 = .ok (.isub, 1) := by decide +kernel
theorem d284_100 : decode (hs_code 284) 100 = .ok (.iastore, 1) := by decide +kernel
theorem d284_101 : decode (hs_code 284) 101 = .ok (.goto 56, 3) := by decide +kernel
theorem d284_104 : decode (hs_code 284) 104 = .ok (.aload_n 0, 1) := by decide +kernel
theorem d284_105 : decode (hs_code 284) 105 = .ok (.getfield 35, 3) := by decide +kernel
theorem d284_108 : decode (hs_code 284) 108 = .ok (.bipush 26, 2) := by decide +kernel
theorem d284_110 : decode (hs_code 284) 110 = .ok (.iload_n 2, 1) := by decide +kernel
theorem d284_111 : decode (hs_code 284) 111 = .ok (.iadd, 1) := by decide +kernel
theorem d284_112 : decode (hs_code 284) 112 = .ok (.aload_n 0, 1) := by decide +kernel
theorem d284_113 : decode (hs_code 284) 113 = .ok (.getfield 35, 3) := by decide +kernel
theorem d284_116 : decode (hs_code 284) 116 = .ok (.bipush 9, 2) := by decide +kernel
theorem d284_118 : decode (hs_code 284) 118 = .ok (.iaload, 1) := by decide +kernel
theorem d284_119 : decode (hs_code 284) 119 = .ok (.iconst 1, 1) := by decide +kernel
theorem d284_120 : decode (hs_code 284) 120 = .ok (.if_icmp .ne 21, 3) := by decide +kernel
theorem d284_123 : decode (hs_code 284) 123 = .ok (.iconst 2, 1) := by decide +kernel
theorem d284_124 : decode (hs_code 284) 124 = .ok (.aload_n 0, 1) := by decide +kernel
theorem d284_125 : decode (hs_code 284) 125 = .ok (.getfield 35, 3) := by decide +kernel
theorem d284_128 : decode (hs_code 284) 128 = .ok (.bipush 26, 2) := by decide +kernel
theorem d284_130 : decode (hs_code 284) 130 = .ok (.iload_n 2, 1) := by decide +kernel
theorem d284_131 : decode (hs_code 284) 131 = .ok (.iadd, 1) := by decide +kernel
theorem d284_132 : decode (hs_code 284) 132 = .ok (.iaload, 1) := by decide +kernel
theorem d284_133 : decode (hs_code 284) 133 = .ok (.iconst 1, 1) := by decide +kernel
theorem d284_134 : decode (hs_code 284) 134 = .ok (.iadd, 1) := by decide +kernel
theorem d284_135 : decode (hs_code 284) 135 = .ok (.invokestatic 317, 3) := by decide +kernel
theorem d284_138 : decode (hs_code 284) 138 = .ok (.goto 18, 3) := by decide +kernel
theorem d284_141 : decode (hs_code 284) 141 = .ok (.iconst 0, 1) := by decide +kernel
theorem d284_142 : decode (hs_code 284) 142 = .ok (.aload_n 0, 1) := by decide +kernel
theorem d284_143 : decode (hs_code 284) 143 = .ok (.getfield 35, 3) := by decide +kernel
theorem d284_146 : decode (hs_code 284) 146 = .ok (.bipush 26, 2) := by decide +kernel
theorem d284_148 : decode (hs_code 284) 148 = .ok (.iload_n 2, 1) := by decide +kernel
theorem d284_149 : decode (hs_code 284) 149 = .ok (.iadd, 1) := by decide +kernel
theorem d284_150 : decode (hs_code 284) 150 = .ok (.iaload, 1) := by decide +kernel
theorem d284_151 : decode (hs_code 284) 151 = .ok (.iconst 1, 1) := by decide +kernel
theorem d284_152 : decode (hs_code 284) 152 = .ok (.isub, 1) := by decide +kernel
theorem d284_153 : decode (hs_code 284) 153 = .ok (.invokestatic 245, 3) := by decide +kernel
theorem d284_156 : decode (hs_code 284) 156 = .ok (.iastore, 1) := by decide +kernel
theorem d284_157 : decode (hs_code 284) 157 = .ok (.iinc 2 1, 3) := by decide +kernel
theorem d284_160 : decode (hs_code 284) 160 = .ok (.goto (-129), 3) := by decide +kernel
theorem d284_163 : decode (hs_code 284) 163 = .ok (.aload_n 0, 1) := by decide +kernel
theorem d284_164 : decode (hs_code 284) 164 = .ok (.getfield 35, 3) := by decide +kernel
theorem d284_167 : decode (hs_code 284) 167 = .ok (.bipush 8, 2) := by decide +kernel
theorem d284_169 : decode (hs_code 284) 169 = .ok (.dup2, 1) := by decide +kernel
theorem d284_170 : decode (hs_code 284) 170 = .ok (.iaload, 1) := by decide +kernel
theorem d284_171 : decode (hs_code 284) 171 = .ok (.iconst 1, 1) := by decide +kernel
theorem d284_172 : decode (hs_code 284) 172 = .ok (.iadd, 1) := by decide +kernel
theorem d284_173 : decode (hs_code 284) 173 = .ok (.iastore, 1) := by decide +kernel
theorem d284_174 : decode (hs_code 284) 174 = .ok (.return_, 1) := by decide +kernel
theorem d285_0 : decode (hs_code 285) 0 = .ok (.aload_n 0, 1) := by decide +kernel
theorem d285_1 : decode (hs_code 285) 1 = .ok (.iconst 0, 1) := by decide +kernel
theorem d285_2 : decode (hs_code 285) 2 = .ok (.putfield 60, 3) := by decide +kernel
theorem d285_5 : decode (hs_code 285) 5 = .ok (.aload_n 0, 1) := by decide +kernel
theorem d285_6 : decode (hs_code 285) 6 = .ok (.iconst 0, 1) := by decide +kernel
theorem d285_7 : decode (hs_code 285) 7 = .ok (.putfield 63, 3) := by decide +kernel
theorem d285_10 : decode (hs_code 285) 10 = .ok (.aload_n 0, 1) := by decide +kernel
theorem d285_11 : decode (hs_code 285) 11 = .ok (.bipush 9, 2) := by decide +kernel
theorem d285_13 : decode (hs_code 285) 13 = .ok (.iload_n 1, 1) := by decide +kernel
theorem d285_14 : decode (hs_code 285) 14 = .ok (.ifCond .eq 7, 3) := by decide +kernel
theorem d285_17 : decode (hs_code 285) 17 = .ok (.iconst 1, 1) := by decide +kernel
theorem d285_18 : decode (hs_code 285) 18 = .ok (.goto 4, 3) := by decide +kernel
theorem d285_21 : decode (hs_code 285) 21 = .ok (.iconst 0, 1) := by decide +kernel
theorem d285_22 : decode (hs_code 285) 22 = .ok (.invokevirtual 364, 3) := by decide +kernel
theorem d285_25 : decode (hs_code 285) 25 = .ok (.ifCond .ne 12, 3) := by decide +kernel
theorem d285_28 : decode (hs_code 285) 28 = .ok (.aload_n 0, 1) := by decide +kernel
theorem d285_29 : decode (hs_code 285) 29 = .ok (.bipush 9, 2) := by decide +kernel
theorem d285_31 : decode (hs_code 285) 31 = .ok (.invokevirtual 75, 3) := by decide +kernel
theorem d285_34 : decode (hs_code 285) 34 = .ok (.ifCond .eq 7, 3) := by decide +kernel
theorem d285_37 : decode (hs_code 285) 37 = .ok (.iconst 1, 1) := by decide +kernel
theorem d285_38 : decode (hs_code 285) 38 = .ok (.goto 4, 3) := by decide +kernel
theorem d285_41 : decode (hs_code 285) 41 = .ok (.iconst 0, 1) := by decide +kernel
theorem d285_42 : decode (hs_code 285) 42 = .ok (.ireturn, 1) := by decide +kernel
theorem d286_0 : decode (hs_code 286) 0 = .ok (.aload_n 0, 1) := by decide +kernel
theorem d286_1 : decode (hs_code 286) 1 = .ok (.getfield 35, 3) := by decide +kernel
theorem d286_4 : decode (hs_code 286) 4 = .ok (.iload_n 1, 1) := by decide +kernel
theorem d286_5 : decode (hs_code 286) 5 = .ok (.iaload, 1) := by decide +kernel
theorem d286_6 : decode (hs_code 286) 6 = .ok (.iload_n 2, 1) := by decide +kernel
theorem d286_7 : decode (hs_code 286) 7 = .ok (.if_icmp .ne 5, 3) := by decide +kernel
theorem d286_10 : decode (hs_code 286) 10 = .ok (.iconst 0, 1) := by decide +kernel
theorem d286_11 : decode (hs_code 286) 11 = .ok (.ireturn, 1) := by decide +kernel
theorem d286_12 : decode (hs_code 286) 12 = .ok (.aload_n 0, 1) := by decide +kernel
theorem d286_13 : decode (hs_code 286) 13 = .ok (.getfield 35, 3) := by decide +kernel
theorem d286_16 : decode (hs_code 286) 16 = .ok (.iload_n 1, 1) := by decide +kernel
theorem d286_17 : decode (hs_code 286) 17 = .ok (.iload_n 2, 1) := by decide +kernel
theorem d286_18 : decode (hs_code 286) 18 = .ok (.iastore, 1) := by decide +kernel
theorem d286_19 : decode (hs_code 286) 19 = .ok (.iconst 1, 1) := by decide +kernel
theorem d286_20 : decode (hs_code 286) 20 = .ok (.ireturn, 1) := by decide +kernel
theorem d287_0 : decode (hs_code 287) 0 = .ok (.aload_n 0, 1) := by decide +kernel
theorem d287_1 : decode (hs_code 287) 1 = .ok (.iconst 0, 1) := by decide +kernel
theorem d287_2 : decode (hs_code 287) 2 = .ok (.putfield 60, 3) := by decide +kernel
theorem d287_5 : decode (hs_code 287) 5 = .ok (.aload_n 0, 1) := by decide +kernel
theorem d287_6 : decode (hs_code 287) 6 = .ok (.iconst 0, 1) := by decide +kernel
theorem d287_7 : decode (hs_code 287) 7 = .ok (.putfield 63, 3) := by decide +kernel
theorem d287_10 : decode (hs_code 287) 10 = .ok (.aload_n 0, 1) := by decide +kernel
theorem d287_11 : decode (hs_code 287) 11 = .ok (.iload_n 1, 1) := by decide +kernel
theorem d287_12 : decode (hs_code 287) 12 = .ok (.invokevirtual 340, 3) := by decide +kernel
theorem d287_15 : decode (hs_code 287) 15 = .ok (.ifCond .ne 9, 3) := by decide +kernel
theorem d287_18 : decode (hs_code 287) 18 = .ok (.aload_n 0, 1) := by decide +kernel
theorem d287_19 : decode (hs_code 287) 19 = .ok (.iconst 2, 1) := by decide +kernel
theorem d287_20 : decode (hs_code 287) 20 = .ok (.invokevirtual 322, 3) := by decide +kernel
theorem d287_23 : decode (hs_code 287) 23 = .ok (.ireturn, 1) := by decide +kernel
theorem d287_24 : decode (hs_code 287) 24 = .ok (.iload_n 2, 1) := by decide +kernel
theorem d287_25 : decode (hs_code 287) 25 = .ok (.i2l, 1) := by decide +kernel
theorem d287_26 : decode (hs_code 287) 26 = .ok (.lconst 0, 1) := by decide +kernel
theorem d287_27 : decode (hs_code 287) 27 = .ok (.ldc2_w 359, 3) := by decide +kernel
theorem d287_30 : decode (hs_code 287) 30 = .ok (.invokestatic 95, 3) := by decide +kernel
theorem d287_33 : decode (hs_code 287) 33 = .ok (.ifCond .ne 9, 3) := by decide +kernel
theorem d287_36 : decode (hs_code 287) 36 = .ok (.aload_n 0, 1) := by decide +kernel
theorem d287_37 : decode (hs_code 287) 37 = .ok (.iconst 5, 1) := by decide +kernel
theorem d287_38 : decode (hs_code 287) 38 = .ok (.invokevirtual 322, 3) := by decide +kernel
theorem d287_41 : decode (hs_code 287) 41 = .ok (.ireturn, 1) := by decide +kernel
theorem d287_42 : decode (hs_code 287) 42 = .ok (.aload_n 0, 1) := by decide +kernel
theorem d287_43 : decode (hs_code 287) 43 = .ok (.getfield 35, 3) := by decide +kernel
theorem d287_46 : decode (hs_code 287) 46 = .ok (.bipush 34, 2) := by decide +kernel
theorem d287_48 : decode (hs_code 287) 48 = .ok (.iload_n 1, 1) := by decide +kernel
theorem d287_49 : decode (hs_code 287) 49 = .ok (.iadd, 1) := by decide +kernel
theorem d287_50 : decode (hs_code 287) 50 = .ok (.iaload, 1) := by decide +kernel
theorem d287_51 : decode (hs_code 287) 51 = .ok (.istore_n 3, 1) := by decide +kernel
theorem d287_52 : decode (hs_code 287) 52 = .ok (.aload_n 0, 1) := by decide +kernel
theorem d287_53 : decode (hs_code 287) 53 = .ok (.getfield 35, 3) := by decide +kernel
theorem d287_56 : decode (hs_code 287) 56 = .ok (.bipush 34, 2) := by decide +kernel
theorem d287_58 : decode (hs_code 287) 58 = .ok (.iload_n 1, 1) := by decide +kernel
theorem d287_59 : decode (hs_code 287) 59 = .ok (.iadd, 1) := by decide +kernel
theorem d287_60 : decode (hs_code 287) 60 = .ok (.iload_n 2, 1) := by decide +kernel
theorem d287_61 : decode (hs_code 287) 61 = .ok (.iastore, 1) := by decide +kernel
theorem d287_62 : decode (hs_code 287) 62 = .ok (.iload_n 3, 1) := by decide +kernel
theorem d287_63 : decode (hs_code 287) 63 = .ok (.ireturn, 1) := by decide +kernel
theorem d288_0 : decode (hs_code 288) 0 = .ok (.aload_n 0, 1) := by decide +kernel
theorem d288_1 : decode (hs_code 288) 1 = .ok (.iconst 0, 1) := by decide +kernel
theorem d288_2 : decode (hs_code 288) 2 = .ok (.putfield 60, 3) := by decide +kernel
theorem d288_5 : decode (hs_code 288) 5 = .ok (.aload_n 0, 1) := by decide +kernel
theorem d288_6 : decode (hs_code 288) 6 = .ok (.aload_n 0, 1) := by decide +kernel
theorem d288_7 : decode (hs_code 288) 7 = .ok (.iload_n 1, 1) := by decide +kernel
theorem d288_8 : decode (hs_code 288) 8 = .ok (.iload_n 2, 1) := by decide +kernel
theorem d288_9 : decode (hs_code 288) 9 = .ok (.invokevirtual 367, 3) := by decide +kernel
theorem d288_12 : decode (hs_code 288) 12 = .ok (.putfield 63, 3) := by decide +kernel
theorem d288_15 : decode (hs_code 288) 15 = .ok (.aload_n 0, 1) := by decide +kernel
theorem d288_16 : decode (hs_code 288) 16 = .ok (.getfield 63, 3) := by decide +kernel
theorem d288_19 : decode (hs_code 288) 19 = .ok (.ifCond .le 7, 3) := by decide +kernel
theorem d288_22 : decode (hs_code 288) 22 = .ok (.iconst (-1), 1) := by decide +kernel
theorem d288_23 : decode (hs_code 288) 23 = .ok (.goto 9, 3) := by decide +kernel
theorem d288_26 : decode (hs_code 288) 26 = .ok (.aload_n 0, 1) := by decide +kernel
theorem d288_27 : decode (hs_code 288) 27 = .ok (.iload_n 1, 1) := by decide +kernel
theorem d288_28 : decode (hs_code 288) 28 = .ok (.iload_n 2, 1) := by decide +kernel
theorem d288_29 : decode (hs_code 288) 29 = .ok (.invokevirtual 370, 3) := by decide +kernel
theorem d288_32 : decode (hs_code 288) 32 = .ok (.ireturn, 1) := by decide +kernel
theorem d289_0 : decode (hs_code 289) 0 = .ok (.aload_n 0, 1) := by decide +kernel
theorem d289_1 : decode (hs_code 289) 1 = .ok (.iload_n 1, 1) := by decide +kernel
theorem d289_2 : decode (hs_code 289) 2 = .ok (.invokevirtual 340, 3) := by decide +kernel
theorem d289_5 : decode (hs_code 289) 5 = .ok (.ifCond .ne 5, 3) := by decide +kernel
theorem d289_8 : decode (hs_code 289) 8 = .ok (.iconst 2, 1) := by decide +kernel
theorem d289_9 : decode (hs_code 289) 9 = .ok (.ireturn, 1) := by decide +kernel
theorem d289_10 : decode (hs_code 289) 10 = .ok (.iload_n 2, 1) := by decide +kernel
theorem d289_11 : decode (hs_code 289) 11 = .ok (.i2l, 1) := by decide +kernel
theorem d289_12 : decode (hs_code 289) 12 = .ok (.lconst 0, 1) := by decide +kernel
theorem d289_13 : decode (hs_code 289) 13 = .ok (.ldc2_w 359, 3) := by decide +kernel
theorem d289_16 : decode (hs_code 289) 16 = .ok (.invokestatic 95, 3) := by decide +kernel
theorem d289_19 : decode (hs_code 289) 19 = .ok (.ifCond .ne 5, 3) := by decide +kernel
theorem d289_22 : decode (hs_code 289) 22 = .ok (.iconst 5, 1) := by decide +kernel
theorem d289_23 : decode (hs_code 289) 23 = .ok (.ireturn, 1) := by decide +kernel
theorem d289_24 : decode (hs_code 289) 24 = .ok (.iload_n 2, 1) := by decide +kernel
theorem d289_25 : decode (hs_code 289) 25 = .ok (.aload_n 0, 1) := by decide +kernel
theorem d289_26 : decode (hs_code 289) 26 = .ok (.getfield 35, 3) := by decide +kernel
theorem d289_29 : decode (hs_code 289) 29 = .ok (.bipush 10, 2) := by decide +kernel
theorem d289_31 : decode (hs_code 289) 31 = .ok (.iload_n 1, 1) := by decide +kernel
theorem d289_32 : decode (hs_code 289) 32 = .ok (.iadd, 1) := by decide +kernel
theorem d289_33 : decode (hs_code 289) 33 = .ok (.iaload, 1) := by decide +kernel
theorem d289_34 : decode (hs_code 289) 34 = .ok (.if_icmp .lt 8, 3) := by decide +kernel
theorem d289_37 : decode (hs_code 289) 37 = .ok (.bipush 9, 2) := by decide +kernel
theorem d289_39 : decode (hs_code 289) 39 = .ok (.goto 4, 3) := by decide +kernel
theorem d289_42 : decode (hs_code 289) 42 = .ok (.iconst 0, 1) := by decide +kernel
theorem d289_43 : decode (hs_code 289) 43 = .ok (.ireturn, 1) := by decide +kernel
theorem d290_0 : decode (hs_code 290) 0 = .ok (.aload_n 0, 1) := by decide +kernel
theorem d290_1 : decode (hs_code 290) 1 = .ok (.getfield 35, 3) := by decide +kernel
theorem d290_4 : decode (hs_code 290) 4 = .ok (.bipush 10, 2) := by decide +kernel
theorem d290_6 : decode (hs_code 290) 6 = .ok (.iload_n 1, 1) := by decide +kernel
theorem d290_7 : decode (hs_code 290) 7 = .ok (.iadd, 1) := by decide +kernel
theorem d290_8 : decode (hs_code 290) 8 = .ok (.iaload, 1) := by decide +kernel
theorem d290_9 : decode (hs_code 290) 9 = .ok (.iload_n 2, 1) := by decide +kernel
theorem d290_10 : decode (hs_code 290) 10 = .ok (.isub, 1) := by decide +kernel
theorem d290_11 : decode (hs_code 290) 11 = .ok (.istore_n 3, 1) := by decide +kernel
theorem d290_12 : decode (hs_code 290) 12 = .ok (.iload_n 3, 1) := by decide +kernel
theorem d290_13 : decode (hs_code 290) 13 = .ok (.ifCond .gt 5, 3) := by decide +kernel
theorem d290_16 : decode (hs_code 290) 16 = .ok (.iconst (-1), 1) := by decide +kernel
theorem d290_17 : decode (hs_code 290) 17 = .ok (.ireturn, 1) := by decide +kernel
theorem d290_18 : decode (hs_code 290) 18 = .ok (.aload_n 0, 1) := by decide +kernel
theorem d290_19 : decode (hs_code 290) 19 = .ok (.getfield 35, 3) := by decide +kernel
theorem d290_22 : decode (hs_code 290) 22 = .ok (.bipush 10, 2) := by decide +kernel
theorem d290_24 : decode (hs_code 290) 24 = .ok (.iload_n 1, 1) := by decide +kernel
theorem d290_25 : decode (hs_code 290) 25 = .ok (.iadd, 1) := by decide +kernel
theorem d290_26 : decode (hs_code 290) 26 = .ok (.iload_n 2, 1) := by decide +kernel
theorem d290_27 : decode (hs_code 290) 27 = .ok (.iastore, 1) := by decide +kernel
theorem d290_28 : decode (hs_code 290) 28 = .ok (.iload_n 3, 1) := by decide +kernel
theorem d290_29 : decode (hs_code 290) 29 = .ok (.ireturn, 1) := by decide +kernel
theorem d291_0 : decode (hs_code 291) 0 = .ok (.aload_n 0, 1) := by decide +kernel
theorem d291_1 : decode (hs_code 291) 1 = .ok (.iconst 0, 1) := by decide +kernel
theorem d291_2 : decode (hs_code 291) 2 = .ok (.putfield 60, 3) := by decide +kernel
theorem d291_5 : decode (hs_code 291) 5 = .ok (.aload_n 0, 1) := by decide +kernel
theorem d291_6 : decode (hs_code 291) 6 = .ok (.aload_n 0, 1) := by decide +kernel
theorem d291_7 : decode (hs_code 291) 7 = .ok (.iload_n 1, 1) := by decide +kernel
theorem d291_8 : decode (hs_code 291) 8 = .ok (.iload_n 2, 1) := by decide +kernel
theorem d291_9 : decode (hs_code 291) 9 = .ok (.invokevirtual 367, 3) := by decide +kernel
theorem d291_12 : decode (hs_code 291) 12 = .ok (.putfield 63, 3) := by decide +kernel
theorem d291_15 : decode (hs_code 291) 15 = .ok (.aload_n 0, 1) := by decide +kernel
theorem d291_16 : decode (hs_code 291) 16 = .ok (.getfield 63, 3) := by decide +kernel
theorem d291_19 : decode (hs_code 291) 19 = .ok (.ifCond .le 5, 3) := by decide +kernel
theorem d291_22 : decode (hs_code 291) 22 = .ok (.iconst (-1), 1) := by decide +kernel
theorem d291_23 : decode (hs_code 291) 23 = .ok (.ireturn, 1) := by decide +kernel
theorem d291_24 : decode (hs_code 291) 24 = .ok (.aload_n 0, 1) := by decide +kernel
theorem d291_25 : decode (hs_code 291) 25 = .ok (.iload_n 1, 1) := by decide +kernel
theorem d291_26 : decode (hs_code 291) 26 = .ok (.iload_n 2, 1) := by decide +kernel
theorem d291_27 : decode (hs_code 291) 27 = .ok (.invokevirtual 375, 3) := by decide +kernel
theorem d291_30 : decode (hs_code 291) 30 = .ok (.ifCond .gt 5, 3) := by decide +kernel
theorem d291_33 : decode (hs_code 291) 33 = .ok (.iconst 0, 1) := by decide +kernel
theorem d291_34 : decode (hs_code 291) 34 = .ok (.ireturn, 1) := by decide +kernel
theorem d291_35 : decode (hs_code 291) 35 = .ok (.aload_n 0, 1) := by decide +kernel
theorem d291_36 : decode (hs_code 291) 36 = .ok (.iload_n 1, 1) := by decide +kernel
theorem d291_37 : decode (hs_code 291) 37 = .ok (.iload_n 2, 1) := by decide +kernel
theorem d291_38 : decode (hs_code 291) 38 = .ok (.invokevirtual 370, 3) := by decide +kernel
theorem d291_41 : decode (hs_code 291) 41 = .ok (.pop, 1) := by decide +kernel
theorem d291_42 : decode (hs_code 291) 42 = .ok (.iconst 1, 1) := by decide +kernel
theorem d291_43 : decode (hs_code 291) 43 = .ok (.ireturn, 1) := by decide +kernel
theorem d292_0 : decode (hs_code 292) 0 = .ok (.iconst 0, 1) := by decide +kernel
theorem d292_1 : decode (hs_code 292) 1 = .ok (.istore_n 3, 1) := by decide +kernel
theorem d292_2 : decode (hs_code 292) 2 = .ok (.iconst 0, 1) := by decide +kernel
theorem d292_3 : decode (hs_code 292) 3 = .ok (.istore 4, 2) := by decide +kernel
theorem d292_5 : decode (hs_code 292) 5 = .ok (.iload 4, 2) := by decide +kernel
theorem d292_7 : decode (hs_code 292) 7 = .ok (.aload_n 0, 1) := by decide +kernel
theorem d292_8 : decode (hs_code 292) 8 = .ok (.getfield 35, 3) := by decide +kernel
theorem d292_11 : decode (hs_code 292) 11 = .ok (.iconst 1, 1) := by decide +kernel
theorem d292_12 : decode (hs_code 292) 12 = .ok (.iaload, 1) := by decide +kernel
theorem d292_13 : decode (hs_code 292) 13 = .ok (.if_icmp .ge 96, 3) := by decide +kernel
theorem d292_16 : decode (hs_code 292) 16 = .ok (.aload_n 0, 1) := by decide +kernel
theorem d292_17 : decode (hs_code 292) 17 = .ok (.getfield 35, 3) := by decide +kernel
theorem d292_20 : decode (hs_code 292) 20 = .ok (.bipush 47, 2) := by decide +kernel
theorem d292_22 : decode (hs_code 292) 22 = .ok (.iload 4, 2) := by decide +kernel
theorem d292_24 : decode (hs_code 292) 24 = .ok (.iadd, 1) := by decide +kernel
theorem d292_25 : decode (hs_code 292) 25 = .ok (.iaload, 1) := by decide +kernel
theorem d292_26 : decode (hs_code 292) 26 = .ok (.iload_n 2, 1) := by decide +kernel
theorem d292_27 : decode (hs_code 292) 27 = .ok (.isub, 1) := by decide +kernel
theorem d292_28 : decode (hs_code 292) 28 = .ok (.invokestatic 373, 3) := by decide +kernel
theorem d292_31 : decode (hs_code 292) 31 = .ok (.istore 5, 2) := by decide +kernel
theorem d292_33 : decode (hs_code 292) 33 = .ok (.aload_n 0, 1) := by decide +kernel
theorem d292_34 : decode (hs_code 292) 34 = .ok (.getfield 35, 3) := by decide +kernel
theorem d292_37 : decode (hs_code 292) 37 = .ok (.bipush 47, 2) := by decide +kernel
theorem d292_39 : decode (hs_code 292) 39 = .ok (.iload 4, 2) := by decide +kernel
theorem d292_41 : decode (hs_code 292) 41 = .ok (.iadd, 1) := by decide +kernel
theorem d292_42 : decode (hs_code 292) 42 = .ok (.iaload, 1) := by decide +kernel
theorem d292_43 : decode (hs_code 292) 43 = .ok (.aload_n 0, 1) := by decide +kernel
theorem d292_44 : decode (hs_code 292) 44 = .ok (.getfield 35, 3) := by decide +kernel
theorem d292_47 : decode (hs_code 292) 47 = .ok (.bipush 10, 2) := by decide +kernel
theorem d292_49 : decode (hs_code 292) 49 = .ok (.iload_n 1, 1) := by decide +kernel
theorem d292_50 : decode (hs_code 292) 50 = .ok (.iadd, 1) := by decide +kernel
theorem d292_51 : decode (hs_code 292) 51 = .ok (.iaload, 1) := by decide +kernel
theorem d292_52 : decode (hs_code 292) 52 = .ok (.isub, 1) := by decide +kernel
theorem d292_53 : decode (hs_code 292) 53 = .ok (.invokestatic 373, 3) := by decide +kernel
theorem d292_56 : decode (hs_code 292) 56 = .ok (.istore 6, 2) := by decide +kernel
theorem d292_58 : decode (hs_code 292) 58 = .ok (.iload_n 3, 1) := by decide +kernel
theorem d292_59 : decode (hs_code 292) 59 = .ok (.iload 5, 2) := by decide +kernel
theorem d292_61 : decode (hs_code 292) 61 = .ok (.iload 6, 2) := by decide +kernel
theorem d292_63 : decode (hs_code 292) 63 = .ok (.if_icmp .ge 16, 3) := by decide +kernel
theorem d292_66 : decode (hs_code 292) 66 = .ok (.aload_n 0, 1) := by decide +kernel
theorem d292_67 : decode (hs_code 292) 67 = .ok (.getfield 35, 3) := by decide +kernel
theorem d292_70 : decode (hs_code 292) 70 = .ok (.bipush 42, 2) := by decide +kernel
theorem d292_72 : decode (hs_code 292) 72 = .ok (.iload 4, 2) := by decide +kernel
theorem d292_74 : decode (hs_code 292) 74 = .ok (.iadd, 1) := by decide +kernel
theorem d292_75 : decode (hs_code 292) 75 = .ok (.iaload, 1) := by decide +kernel
theorem d292_76 : decode (hs_code 292) 76 = .ok (.goto 25, 3) := by decide +kernel
theorem d292_79 : decode (hs_code 292) 79 = .ok (.iload 5, 2) := by decide +kernel
theorem d292_81 : decode (hs_code 292) 81 = .ok (.iload 6, 2) := by decide +kernel
theorem d292_83 : decode (hs_code 292) 83 = .ok (.if_icmp .le 17, 3) := by decide +kernel
theorem d292_86 : decode (hs_code 292) 86 = .ok (.aload_n 0, 1) := by decide +kernel
theorem d292_87 : decode (hs_code 292) 87 = .ok (.getfield 35, 3) := by decide +kernel
theorem d292_90 : decode (hs_code 292) 90 = .ok (.bipush 42, 2) := by decide +kernel
theorem d292_92 : decode (hs_code 292) 92 = .ok (.iload 4, 2) := by decide +kernel
theorem d292_94 : decode (hs_code 292) 94 = .ok (.iadd, 1) := by decide +kernel
theorem d292_95 : decode (hs_code 292) 95 = .ok (.iaload, 1) := by decide +kernel
theorem d292_96 : decode (hs_code 292) 96 = .ok (.ineg, 1) := by decide +kernel
theorem d292_97 : decode (hs_code 292) 97 = .ok (.goto 4, 3) := by decide +kernel
theorem d292_100 : decode (hs_code 292) 100 = .ok (.iconst 0, 1) := by decide +kernel
theorem d292_101 : decode (hs_code 292) 101 = .ok (.iadd, 1) := by decide +kernel
theorem d292_102 : decode (hs_code 292) 102 = .ok (.istore_n 3, 1) := by decide +kernel
theorem d292_103 : decode (hs_code 292) 103 = .ok (.iinc 4 1, 3) := by decide +kernel
theorem d292_106 : decode (hs_code 292) 106 = .ok (.goto (-101), 3) := by decide +kernel
theorem d292_109 : decode (hs_code 292) 109 = .ok (.iload_n 3, 1) := by decide +kernel
theorem d292_110 : decode (hs_code 292) 110 = .ok (.ireturn, 1) := by decide +kernel
theorem d293_0 : decode (hs_code 293) 0 = .ok (.aload_n 0, 1) := by decide +kernel
theorem d293_1 : decode (hs_code 293) 1 = .ok (.iconst 0, 1) := by decide +kernel
theorem d293_2 : decode (hs_code 293) 2 = .ok (.putfield 60, 3) := by decide +kernel
theorem d293_5 : decode (hs_code 293) 5 = .ok (.aload_n 0, 1) := by decide +kernel
theorem d293_6 : decode (hs_code 293) 6 = .ok (.iconst 0, 1) := by decide +kernel
theorem d293_7 : decode (hs_code 293) 7 = .ok (.putfield 63, 3) := by decide +kernel
theorem d293_10 : decode (hs_code 293) 10 = .ok (.aload_n 0, 1) := by decide +kernel
theorem d293_11 : decode (hs_code 293) 11 = .ok (.invokevirtual 378, 3) := by decide +kernel
theorem d293_14 : decode (hs_code 293) 14 = .ok (.ifCond .eq 13, 3) := by decide +kernel
theorem d293_17 : decode (hs_code 293) 17 = .ok (.aload_n 0, 1) := by decide +kernel
theorem d293_18 : decode (hs_code 293) 18 = .ok (.getfield 35, 3) := by decide +kernel
theorem d293_21 : decode (hs_code 293) 21 = .ok (.bipush 58, 2) := by decide +kernel
theorem d293_23 : decode (hs_code 293) 23 = .ok (.iaload, 1) := by decide +kernel
theorem d293_24 : decode (hs_code 293) 24 = .ok (.goto 9, 3) := by decide +kernel
theorem d293_27 : decode (hs_code 293) 27 = .ok (.aload_n 0, 1) := by decide +kernel
theorem d293_28 : decode (hs_code 293) 28 = .ok (.bipush 9, 2) := by decide +kernel
theorem d293_30 : decode (hs_code 293) 30 = .ok (.invokevirtual 322, 3) := by decide +kernel
theorem d293_33 : decode (hs_code 293) 33 = .ok (.ireturn, 1) := by decide +kernel
theorem d294_0 : decode (hs_code 294) 0 = .ok (.aload_n 0, 1) := by decide +kernel
theorem d294_1 : decode (hs_code 294) 1 = .ok (.getfield 35, 3) := by decide +kernel
theorem d294_4 : decode (hs_code 294) 4 = .ok (.bipush 58, 2) := by decide +kernel
theorem d294_6 : decode (hs_code 294) 6 = .ok (.iaload, 1) := by decide +kernel
theorem d294_7 : decode (hs_code 294) 7 = .ok (.iconst 1, 1) := by decide +kernel
theorem d294_8 : decode (hs_code 294) 8 = .ok (.iadd, 1) := by decide +kernel
theorem d294_9 : decode (hs_code 294) 9 = .ok (.aload_n 0, 1) := by decide +kernel
theorem d294_10 : decode (hs_code 294) 10 = .ok (.getfield 35, 3) := by decide +kernel
theorem d294_13 : decode (hs_code 294) 13 = .ok (.iconst 2, 1) := by decide +kernel
theorem d294_14 : decode (hs_code 294) 14 = .ok (.iaload, 1) := by decide +kernel
theorem d294_15 : decode (hs_code 294) 15 = .ok (.if_icmp .lt 5, 3) := by decide +kernel
theorem d294_18 : decode (hs_code 294) 18 = .ok (.iconst 0, 1) := by decide +kernel
theorem d294_19 : decode (hs_code 294) 19 = .ok (.ireturn, 1) := by decide +kernel
theorem d294_20 : decode (hs_code 294) 20 = .ok (.aload_n 0, 1) := by decide +kernel
theorem d294_21 : decode (hs_code 294) 21 = .ok (.getfield 35, 3) := by decide +kernel
theorem d294_24 : decode (hs_code 294) 24 = .ok (.bipush 58, 2) := by decide +kernel
theorem d294_26 : decode (hs_code 294) 26 = .ok (.dup2, 1) := by decide +kernel
theorem d294_27 : decode (hs_code 294) 27 = .ok (.iaload, 1) := by decide +kernel
theorem d294_28 : decode (hs_code 294) 28 = .ok (.iconst 1, 1) := by decide +kernel
theorem d294_29 : decode (hs_code 294) 29 = .ok (.iadd, 1) := by decide +kernel
theorem d294_30 : decode (hs_code 294) 30 = .ok (.iastore, 1) := by decide +kernel
theorem d294_31 : decode (hs_code 294) 31 = .ok (.iconst 1, 1) := by decide +kernel
theorem d294_32 : decode (hs_code 294) 32 = .ok (.ireturn, 1) := by decide +kernel
theorem d295_0 : decode (hs_code 295) 0 = .ok (.aload_n 0, 1) := by decide +kernel
theorem d295_1 : decode (hs_code 295) 1 = .ok (.iconst 0, 1) := by decide +kernel
theorem d295_2 : decode (hs_code 295) 2 = .ok (.putfield 60, 3) := by decide +kernel
theorem d295_5 : decode (hs_code 295) 5 = .ok (.aload_n 0, 1) := by decide +kernel
theorem d295_6 : decode (hs_code 295) 6 = .ok (.iconst 0, 1) := by decide +kernel
theorem d295_7 : decode (hs_code 295) 7 = .ok (.putfield 63, 3) := by decide +kernel
theorem d295_10 : decode (hs_code 295) 10 = .ok (.aload_n 0, 1) := by decide +kernel
theorem d295_11 : decode (hs_code 295) 11 = .ok (.iload_n 1, 1) := by decide +kernel
theorem d295_12 : decode (hs_code 295) 12 = .ok (.invokevirtual 340, 3) := by decide +kernel
theorem d295_15 : decode (hs_code 295) 15 = .ok (.ifCond .ne 9, 3) := by decide +kernel
theorem d295_18 : decode (hs_code 295) 18 = .ok (.aload_n 0, 1) := by decide +kernel
theorem d295_19 : decode (hs_code 295) 19 = .ok (.iconst 2, 1) := by decide +kernel
theorem d295_20 : decode (hs_code 295) 20 = .ok (.invokevirtual 75, 3) := by decide +kernel
theorem d295_23 : decode (hs_code 295) 23 = .ok (.ireturn, 1) := by decide +kernel
theorem d295_24 : decode (hs_code 295) 24 = .ok (.iload_n 2, 1) := by decide +kernel
theorem d295_25 : decode (hs_code 295) 25 = .ok (.i2l, 1) := by decide +kernel
theorem d295_26 : decode (hs_code 295) 26 = .ok (.lconst 0, 1) := by decide +kernel
theorem d295_27 : decode (hs_code 295) 27 = .ok (.ldc2_w 381, 3) := by decide +kernel
theorem d295_30 : decode (hs_code 295) 30 = .ok (.invokestatic 95, 3) := by decide +kernel
theorem d295_33 : decode (hs_code 295) 33 = .ok (.ifCond .ne 9, 3) := by decide +kernel
theorem d295_36 : decode (hs_code 295) 36 = .ok (.aload_n 0, 1) := by decide +kernel
theorem d295_37 : decode (hs_code 295) 37 = .ok (.iconst 5, 1) := by decide +kernel
theorem d295_38 : decode (hs_code 295) 38 = .ok (.invokevirtual 75, 3) := by decide +kernel
theorem d295_41 : decode (hs_code 295) 41 = .ok (.ireturn, 1) := by decide +kernel
theorem d295_42 : decode (hs_code 295) 42 = .ok (.aload_n 0, 1) := by decide +kernel
theorem d295_43 : decode (hs_code 295) 43 = .ok (.bipush 26, 2) := by decide +kernel
theorem d295_45 : decode (hs_code 295) 45 = .ok (.iload_n 1, 1) := by decide +kernel
theorem d295_46 : decode (hs_code 295) 46 = .ok (.iadd, 1) := by decide +kernel
theorem d295_47 : decode (hs_code 295) 47 = .ok (.iload_n 2, 1) := by decide +kernel
theorem d295_48 : decode (hs_code 295) 48 = .ok (.invokevirtual 364, 3) := by decide +kernel
theorem d295_51 : decode (hs_code 295) 51 = .ok (.ifCond .ne 12, 3) := by decide +kernel
theorem d295_54 : decode (hs_code 295) 54 = .ok (.aload_n 0, 1) := by decide +kernel
theorem d295_55 : decode (hs_code 295) 55 = .ok (.bipush 9, 2) := by decide +kernel
theorem d295_57 : decode (hs_code 295) 57 = .ok (.invokevirtual 75, 3) := by decide +kernel
theorem d295_60 : decode (hs_code 295) 60 = .ok (.ifCond .eq 7, 3) := by decide +kernel
theorem d295_63 : decode (hs_code 295) 63 = .ok (.iconst 1, 1) := by decide +kernel
theorem d295_64 : decode (hs_code 295) 64 = .ok (.goto 4, 3) := by decide +kernel
theorem d295_67 : decode (hs_code 295) 67 = .ok (.iconst 0, 1) := by decide +kernel
theorem d295_68 : decode (hs_code 295) 68 = .ok (.ireturn, 1) := by decide +kernel
theorem d296_0 : decode (hs_code 296) 0 = .ok (.aload_n 0, 1) := by decide +kernel
theorem d296_1 : decode (hs_code 296) 1 = .ok (.iconst 0, 1) := by decide +kernel
theorem d296_2 : decode (hs_code 296) 2 = .ok (.putfield 60, 3) := by decide +kernel
theorem d296_5 : decode (hs_code 296) 5 = .ok (.aload_n 0, 1) := by decide +kernel
theorem d296_6 : decode (hs_code 296) 6 = .ok (.iconst 0, 1) := by decide +kernel
theorem d296_7 : decode (hs_code 296) 7 = .ok (.putfield 63, 3) := by decide +kernel
theorem d296_10 : decode (hs_code 296) 10 = .ok (.aload_n 0, 1) := by decide +kernel
theorem d296_11 : decode (hs_code 296) 11 = .ok (.iload_n 1, 1) := by decide +kernel
theorem d296_12 : decode (hs_code 296) 12 = .ok (.invokevirtual 343, 3) := by decide +kernel
theorem d296_15 : decode (hs_code 296) 15 = .ok (.ifCond .ne 9, 3) := by decide +kernel
theorem d296_18 : decode (hs_code 296) 18 = .ok (.aload_n 0, 1) := by decide +kernel
theorem d296_19 : decode (hs_code 296) 19 = .ok (.iconst 2, 1) := by decide +kernel
theorem d296_20 : decode (hs_code 296) 20 = .ok (.invokevirtual 75, 3) := by decide +kernel
theorem d296_23 : decode (hs_code 296) 23 = .ok (.ireturn, 1) := by decide +kernel
theorem d296_24 : decode (hs_code 296) 24 = .ok (.iload_n 2, 1) := by decide +kernel
theorem d296_25 : decode (hs_code 296) 25 = .ok (.i2l, 1) := by decide +kernel
theorem d296_26 : decode (hs_code 296) 26 = .ok (.lconst 1, 1) := by decide +kernel
theorem d296_27 : decode (hs_code 296) 27 = .ok (.ldc2_w 359, 3) := by decide +kernel
theorem d296_30 : decode (hs_code 296) 30 = .ok (.invokestatic 95, 3) := by decide +kernel
theorem d296_33 : decode (hs_code 296) 33 = .ok (.ifCond .ne 9, 3) := by decide +kernel
theorem d296_36 : decode (hs_code 296) 36 = .ok (.aload_n 0, 1) := by decide +kernel
theorem d296_37 : decode (hs_code 296) 37 = .ok (.iconst 5, 1) := by decide +kernel
theorem d296_38 : decode (hs_code 296) 38 = .ok (.invokevirtual 75, 3) := by decide +kernel
theorem d296_41 : decode (hs_code 296) 41 = .ok (.ireturn, 1) := by decide +kernel
theorem d296_42 : decode (hs_code 296) 42 = .ok (.aload_n 0, 1) := by decide +kernel
theorem d296_43 : decode (hs_code 296) 43 = .ok (.getfield 35, 3) := by decide +kernel
theorem d296_46 : decode (hs_code 296) 46 = .ok (.bipush 42, 2) := by decide +kernel
theorem d296_48 : decode (hs_code 296) 48 = .ok (.iload_n 1, 1) := by decide +kernel
theorem d296_49 : decode (hs_code 296) 49 = .ok (.iadd, 1) := by decide +kernel
theorem d296_50 : decode (hs_code 296) 50 = .ok (.iload_n 2, 1) := by decide +kernel
theorem d296_51 : decode (hs_code 296) 51 = .ok (.iastore, 1) := by decide +kernel
theorem d296_52 : decode (hs_code 296) 52 = .ok (.iconst 1, 1) := by decide +kernel
theorem d296_53 : decode (hs_code 296) 53 = .ok (.ireturn, 1) := by decide +kernel
theorem d297_0 : decode (hs_code 297) 0 = .ok (.aload_n 0, 1) := by decide +kernel
theorem d297_1 : decode (hs_code 297) 1 = .ok (.iconst 0, 1) := by decide +kernel
theorem d297_2 : decode (hs_code 297) 2 = .ok (.putfield 60, 3) := by decide +kernel
theorem d297_5 : decode (hs_code 297) 5 = .ok (.aload_n 0, 1) := by decide +kernel
theorem d297_6 : decode (hs_code 297) 6 = .ok (.iconst 0, 1) := by decide +kernel
theorem d297_7 : decode (hs_code 297) 7 = .ok (.putfield 63, 3) := by decide +kernel
theorem d297_10 : decode (hs_code 297) 10 = .ok (.iload_n 1, 1) := by decide +kernel
theorem d297_11 : decode (hs_code 297) 11 = .ok (.i2l, 1) := by decide +kernel
theorem d297_12 : decode (hs_code 297) 12 = .ok (.ldc2_w 383, 3) := by decide +kernel
theorem d297_15 : decode (hs_code 297) 15 = .ok (.ldc2_w 385, 3) := by decide +kernel
theorem d297_18 : decode (hs_code 297) 18 = .ok (.invokestatic 95, 3) := by decide +kernel
theorem d297_21 : decode (hs_code 297) 21 = .ok (.ifCond .eq 31, 3) := by decide +kernel
theorem d297_24 : decode (hs_code 297) 24 = .ok (.iload_n 2, 1) := by decide +kernel
theorem d297_25 : decode (hs_code 297) 25 = .ok (.i2l, 1) := by decide +kernel
theorem d297_26 : decode (hs_code 297) 26 = .ok (.iload_n 1, 1) := by decide +kernel
theorem d297_27 : decode (hs_code 297) 27 = .ok (.bipush 6, 2) := by decide +kernel
theorem d297_29 : decode (hs_code 297) 29 = .ok (.isub, 1) := by decide +kernel
theorem d297_30 : decode (hs_code 297) 30 = .ok (.i2l, 1) := by decide +kernel
theorem d297_31 : decode (hs_code 297) 31 = .ok (.iload_n 1, 1) := by decide +kernel
theorem d297_32 : decode (hs_code 297) 32 = .ok (.bipush 6, 2) := by decide +kernel
theorem d297_34 : decode (hs_code 297) 34 = .ok (.if_icmp .ne 9, 3) := by decide +kernel
theorem d297_37 : decode (hs_code 297) 37 = .ok (.ldc2_w 387, 3) := by decide +kernel
theorem d297_40 : decode (hs_code 297) 40 = .ok (.goto 6, 3) := by decide +kernel
theorem d297_43 : decode (hs_code 297) 43 = .ok (.ldc2_w 359, 3) := by decide +kernel
theorem d297_46 : decode (hs_code 297) 46 = .ok (.invokestatic 95, 3) := by decide +kernel
theorem d297_49 : decode (hs_code 297) 49 = .ok (.ifCond .ne 9, 3) := by decide +kernel
theorem d297_52 : decode (hs_code 297) 52 = .ok (.aload_n 0, 1) := by decide +kernel
theorem d297_53 : decode (hs_code 297) 53 = .ok (.iconst 5, 1) := by decide +kernel
theorem d297_54 : decode (hs_code 297) 54 = .ok (.invokevirtual 75, 3) := by decide +kernel
theorem d297_57 : decode (hs_code 297) 57 = .ok (.ireturn, 1) := by decide +kernel
theorem d297_58 : decode (hs_code 297) 58 = .ok (.aload_n 0, 1) := by decide +kernel
theorem d297_59 : decode (hs_code 297) 59 = .ok (.getfield 35, 3) := by decide +kernel
theorem d297_62 : decode (hs_code 297) 62 = .ok (.iload_n 1, 1) := by decide +kernel
theorem d297_63 : decode (hs_code 297) 63 = .ok (.iload_n 2, 1) := by decide +kernel
theorem d297_64 : decode (hs_code 297) 64 = .ok (.iastore, 1) := by decide +kernel
theorem d297_65 : decode (hs_code 297) 65 = .ok (.iconst 1, 1) := by decide +kernel
theorem d297_66 : decode (hs_code 297) 66 = .ok (.ireturn, 1) := by decide +kernel
theorem d298_0 : decode (hs_code 298) 0 = .ok (.aload_n 0, 1) := by decide +kernel
theorem d298_1 : decode (hs_code 298) 1 = .ok (.iconst 0, 1) := by decide +kernel
theorem d298_2 : decode (hs_code 298) 2 = .ok (.putfield 60, 3) := by decide +kernel
theorem d298_5 : decode (hs_code 298) 5 = .ok (.aload_n 0, 1) := by decide +kernel
theorem d298_6 : decode (hs_code 298) 6 = .ok (.iconst 0, 1) := by decide +kernel
theorem d298_7 : decode (hs_code 298) 7 = .ok (.putfield 63, 3) := by decide +kernel
theorem d298_10 : decode (hs_code 298) 10 = .ok (.aload_n 0, 1) := by decide +kernel
theorem d298_11 : decode (hs_code 298) 11 = .ok (.iload_n 1, 1) := by decide +kernel
theorem d298_12 : decode (hs_code 298) 12 = .ok (.invokevirtual 346, 3) := by decide +kernel
theorem d298_15 : decode (hs_code 298) 15 = .ok (.ifCond .eq 11, 3) := by decide +kernel
theorem d298_18 : decode (hs_code 298) 18 = .ok (.aload_n 0, 1) := by decide +kernel
theorem d298_19 : decode (hs_code 298) 19 = .ok (.iload_n 2, 1) := by decide +kernel
theorem d298_20 : decode (hs_code 298) 20 = .ok (.invokevirtual 340, 3) := by decide +kernel
theorem d298_23 : decode (hs_code 298) 23 = .ok (.ifCond .ne 9, 3) := by decide +kernel
theorem d298_26 : decode (hs_code 298) 26 = .ok (.aload_n 0, 1) := by decide +kernel
theorem d298_27 : decode (hs_code 298) 27 = .ok (.iconst 2, 1) := by decide +kernel
theorem d298_28 : decode (hs_code 298) 28 = .ok (.invokevirtual 75, 3) := by decide +kernel
theorem d298_31 : decode (hs_code 298) 31 = .ok (.ireturn, 1) := by decide +kernel
theorem d298_32 : decode (hs_code 298) 32 = .ok (.iload_n 3, 1) := by decide +kernel
theorem d298_33 : decode (hs_code 298) 33 = .ok (.i2l, 1) := by decide +kernel
theorem d298_34 : decode (hs_code 298) 34 = .ok (.lconst 0, 1) := by decide +kernel
theorem d298_35 : decode (hs_code 298) 35 = .ok (.ldc2_w 93, 3) := by decide +kernel
theorem d298_38 : decode (hs_code 298) 38 = .ok (.invokestatic 95, 3) := by decide +kernel
theorem d298_41 : decode (hs_code 298) 41 = .ok (.ifCond .ne 9, 3) := by decide +kernel
theorem d298_44 : decode (hs_code 298) 44 = .ok (.aload_n 0, 1) := by decide +kernel
theorem d298_45 : decode (hs_code 298) 45 = .ok (.iconst 5, 1) := by decide +kernel
theorem d298_46 : decode (hs_code 298) 46 = .ok (.invokevirtual 75, 3) := by decide +kernel
theorem d298_49 : decode (hs_code 298) 49 = .ok (.ireturn, 1) := by decide +kernel
theorem d298_50 : decode (hs_code 298) 50 = .ok (.aload_n 0, 1) := by decide +kernel
theorem d298_51 : decode (hs_code 298) 51 = .ok (.bipush 59, 2) := by decide +kernel
theorem d298_53 : decode (hs_code 298) 53 = .ok (.bipush 8, 2) := by decide +kernel
theorem d298_55 : decode (hs_code 298) 55 = .ok (.iload_n 1, 1) := by decide +kernel
theorem d298_56 : decode (hs_code 298) 56 = .ok (.imul, 1) := by decide +kernel
theorem d298_57 : decode (hs_code 298) 57 = .ok (.iadd, 1) := by decide +kernel
theorem d298_58 : decode (hs_code 298) 58 = .ok (.iload_n 2, 1) := by decide +kernel
theorem d298_59 : decode (hs_code 298) 59 = .ok (.iadd, 1) := by decide +kernel
theorem d298_60 : decode (hs_code 298) 60 = .ok (.iload_n 3, 1) := by decide +kernel
theorem d298_61 : decode (hs_code 298) 61 = .ok (.invokevirtual 364, 3) := by decide +kernel
theorem d298_64 : decode (hs_code 298) 64 = .ok (.ifCond .ne 12, 3) := by decide +kernel
theorem d298_67 : decode (hs_code 298) 67 = .ok (.aload_n 0, 1) := by decide +kernel
theorem d298_68 : decode (hs_code 298) 68 = .ok (.bipush 9, 2) := by decide +kernel
theorem d298_70 : decode (hs_code 298) 70 = .ok (.invokevirtual 75, 3) := by decide +kernel
theorem d298_73 : decode (hs_code 298) 73 = .ok (.ifCond .eq 7, 3) := by decide +kernel
theorem d298_76 : decode (hs_code 298) 76 = .ok (.iconst 1, 1) := by decide +kernel
theorem d298_77 : decode (hs_code 298) 77 = .ok (.goto 4, 3) := by decide +kernel
theorem d298_80 : decode (hs_code 298) 80 = .ok (.iconst 0, 1) := by decide +kernel
theorem d298_81 : decode (hs_code 298) 81 = .ok (.ireturn, 1) := by decide +kernel
theorem d299_0 : decode (hs_code 299) 0 = .ok (.aload_n 0, 1) := by decide +kernel
theorem d299_1 : decode (hs_code 299) 1 = .ok (.iconst 0, 1) := by decide +kernel
theorem d299_2 : decode (hs_code 299) 2 = .ok (.putfield 60, 3) := by decide +kernel
theorem d299_5 : decode (hs_code 299) 5 = .ok (.aload_n 0, 1) := by decide +kernel
theorem d299_6 : decode (hs_code 299) 6 = .ok (.iconst 0, 1) := by decide +kernel
theorem d299_7 : decode (hs_code 299) 7 = .ok (.putfield 63, 3) := by decide +kernel
theorem d299_10 : decode (hs_code 299) 10 = .ok (.aload_n 0, 1) := by decide +kernel
theorem d299_11 : decode (hs_code 299) 11 = .ok (.getfield 35, 3) := by decide +kernel
theorem d299_14 : decode (hs_code 299) 14 = .ok (.iconst 0, 1) := by decide +kernel
theorem d299_15 : decode (hs_code 299) 15 = .ok (.iaload, 1) := by decide +kernel
theorem d299_16 : decode (hs_code 299) 16 = .ok (.istore_n 3, 1) := by decide +kernel
theorem d299_17 : decode (hs_code 299) 17 = .ok (.iload_n 1, 1) := by decide +kernel
theorem d299_18 : decode (hs_code 299) 18 = .ok (.i2l, 1) := by decide +kernel
theorem d299_19 : decode (hs_code 299) 19 = .ok (.lconst 0, 1) := by decide +kernel
theorem d299_20 : decode (hs_code 299) 20 = .ok (.ldc2_w 359, 3) := by decide +kernel
theorem d299_23 : decode (hs_code 299) 23 = .ok (.invokestatic 95, 3) := by decide +kernel
theorem d299_26 : decode (hs_code 299) 26 = .ok (.ifCond .eq 15, 3) := by decide +kernel
theorem d299_29 : decode (hs_code 299) 29 = .ok (.iload_n 2, 1) := by decide +kernel
theorem d299_30 : decode (hs_code 299) 30 = .ok (.i2l, 1) := by decide +kernel
theorem d299_31 : decode (hs_code 299) 31 = .ok (.lconst 0, 1) := by decide +kernel
theorem d299_32 : decode (hs_code 299) 32 = .ok (.ldc2_w 389, 3) := by decide +kernel
theorem d299_35 : decode (hs_code 299) 35 = .ok (.invokestatic 95, 3) := by decide +kernel
theorem d299_38 : decode (hs_code 299) 38 = .ok (.ifCond .ne 9, 3) := by decide +kernel
theorem d299_41 : decode (hs_code 299) 41 = .ok (.aload_n 0, 1) := by decide +kernel
theorem d299_42 : decode (hs_code 299) 42 = .ok (.iconst 5, 1) := by decide +kernel
theorem d299_43 : decode (hs_code 299) 43 = .ok (.invokevirtual 322, 3) := by decide +kernel
theorem d299_46 : decode (hs_code 299) 46 = .ok (.ireturn, 1) := by decide +kernel
theorem d299_47 : decode (hs_code 299) 47 = .ok (.iload_n 3, 1) := by decide +kernel
theorem d299_48 : decode (hs_code 299) 48 = .ok (.bipush 8, 2) := by decide +kernel
theorem d299_50 : decode (hs_code 299) 50 = .ok (.if_icmp .ne 10, 3) := by decide +kernel
theorem d299_53 : decode (hs_code 299) 53 = .ok (.aload_n 0, 1) := by decide +kernel
theorem d299_54 : decode (hs_code 299) 54 = .ok (.bipush 7, 2) := by decide +kernel
theorem d299_56 : decode (hs_code 299) 56 = .ok (.invokevirtual 322, 3) := by decide +kernel
theorem d299_59 : decode (hs_code 299) 59 = .ok (.ireturn, 1) := by decide +kernel
theorem d299_60 : decode (hs_code 299) 60 = .ok (.aload_n 0, 1) := by decide +kernel
theorem d299_61 : decode (hs_code 299) 61 = .ok (.getfield 35, 3) := by decide +kernel
theorem d299_64 : decode (hs_code 299) 64 = .ok (.bipush 10, 2) := by decide +kernel
theorem d299_66 : decode (hs_code 299) 66 = .ok (.iload_n 3, 1) := by decide +kernel
theorem d299_67 : decode (hs_code 299) 67 = .ok (.iadd, 1) := by decide +kernel
theorem d299_68 : decode (hs_code 299) 68 = .ok (.iload_n 1, 1) := by decide +kernel
theorem d299_69 : decode (hs_code 299) 69 = .ok (.iastore, 1) := by decide +kernel
theorem d299_70 : decode (hs_code 299) 70 = .ok (.aload_n 0, 1) := by decide +kernel
theorem d299_71 : decode (hs_code 299) 71 = .ok (.getfield 35, 3) := by decide +kernel
theorem d299_74 : decode (hs_code 299) 74 = .ok (.bipush 18, 2) := by decide +kernel
theorem d299_76 : decode (hs_code 299) 76 = .ok (.iload_n 3, 1) := by decide +kernel
theorem d299_77 : decode (hs_code 299) 77 = .ok (.iadd, 1) := by decide +kernel
theorem d299_78 : decode (hs_code 299) 78 = .ok (.iload_n 2, 1) := by decide +kernel
theorem d299_79 : decode (hs_code 299) 79 = .ok (.iastore, 1) := by decide +kernel
theorem d299_80 : decode (hs_code 299) 80 = .ok (.aload_n 0, 1) := by decide +kernel
theorem d299_81 : decode (hs_code 299) 81 = .ok (.getfield 35, 3) := by decide +kernel
theorem d299_84 : decode (hs_code 299) 84 = .ok (.bipush 26, 2) := by decide +kernel
theorem d299_86 : decode (hs_code 299) 86 = .ok (.iload_n 3, 1) := by decide +kernel
theorem d299_87 : decode (hs_code 299) 87 = .ok (.iadd, 1) := by decide +kernel
theorem d299_88 : decode (hs_code 299) 88 = .ok (.iconst 1, 1) := by decide +kernel
theorem d299_89 : decode (hs_code 299) 89 = .ok (.iastore, 1) := by decide +kernel
theorem d299_90 : decode (hs_code 299) 90 = .ok (.aload_n 0, 1) := by decide +kernel
theorem d299_91 : decode (hs_code 299) 91 = .ok (.getfield 35, 3) := by decide +kernel
theorem d299_94 : decode (hs_code 299) 94 = .ok (.bipush 34, 2) := by decide +kernel
theorem d299_96 : decode (hs_code 299) 96 = .ok (.iload_n 3, 1) := by decide +kernel
theorem d299_97 : decode (hs_code 299) 97 = .ok (.iadd, 1) := by decide +kernel
theorem d299_98 : decode (hs_code 299) 98 = .ok (.iconst 0, 1) := by decide +kernel
theorem d299_99 : decode (hs_code 299) 99 = .ok (.iastore, 1) := by decide +kernel
theorem d299_100 : decode (hs_code 299) 100 = .ok (.iconst 0, 1) := by decide +kernel
theorem d299_101 : decode (hs_code 299) 101 = .ok (.istore 4, 2) := by decide +kernel
theorem d299_103 : decode (hs_code 299) 103 = .ok (.iload 4, 2) := by decide +kernel
theorem d299_105 : decode (hs_code 299) 105 = .ok (.bipush 6, 2) := by decide +kernel
theorem d299_107 : decode (hs_code 299) 107 = .ok (.if_icmp .ge 25, 3) := by decide +kernel
theorem d299_110 : decode (hs_code 299) 110 = .ok (.aload_n 0, 1) := by decide +kernel
theorem d299_111 : decode (hs_code 299) 111 = .ok (.getfield 35, 3) := by decide +kernel
theorem d299_114 : decode (hs_code 299) 114 = .ok (.bipush 59, 2) := by decide +kernel
theorem d299_116 : decode (hs_code 299) 116 = .ok (.bipush 8, 2) := by decide +kernel
theorem d299_118 : decode (hs_code 299) 118 = .ok (.iload 4, 2) := by decide +kernel
theorem d299_120 : decode (hs_code 299) 120 = .ok (.imul, 1) := by decide +kernel
theorem d299_121 : decode (hs_code 299) 121 = .ok (.iadd, 1) := by decide +kernel
theorem d299_122 : decode (hs_code 299) 122 = .ok (.iload_n 3, 1) := by decide +kernel
theorem d299_123 : decode (hs_code 299) 123 = .ok (.iadd, 1) := by decide +kernel
theorem d299_124 : decode (hs_code 299) 124 = .ok (.iconst 3, 1) := by decide +kernel
theorem d299_125 : decode (hs_code 299) 125 = .ok (.iastore, 1) := by decide +kernel
theorem d299_126 : decode (hs_code 299) 126 = .ok (.iinc 4 1, 3) := by decide +kernel
theorem d299_129 : decode (hs_code 299) 129 = .ok (.goto (-26), 3) := by decide +kernel
theorem d299_132 : decode (hs_code 299) 132 = .ok (.aload_n 0, 1) := by decide +kernel
theorem d299_133 : decode (hs_code 299) 133 = .ok (.getfield 44, 3) := by decide +kernel
theorem d299_136 : decode (hs_code 299) 136 = .ok (.iload_n 3, 1) := by decide +kernel
theorem d299_137 : decode (hs_code 299) 137 = .ok (.lconst 0, 1) := by decide +kernel
theorem d299_138 : decode (hs_code 299) 138 = .ok (.lastore, 1) := by decide +kernel
theorem d299_139 : decode (hs_code 299) 139 = .ok (.aload_n 0, 1) := by decide +kernel
theorem d299_140 : decode (hs_code 299) 140 = .ok (.getfield 35, 3) := by decide +kernel
theorem d299_143 : decode (hs_code 299) 143 = .ok (.iconst 0, 1) := by decide +kernel
theorem d299_144 : decode (hs_code 299) 144 = .ok (.dup2, 1) := by decide +kernel
theorem d299_145 : decode (hs_code 299) 145 = .ok (.iaload, 1) := by decide +kernel
theorem d299_146 : decode (hs_code 299) 146 = .ok (.iconst 1, 1) := by decide +kernel
theorem d299_147 : decode (hs_code 299) 147 = .ok (.iadd, 1) := by decide +kernel
theorem d299_148 : decode (hs_code 299) 148 = .ok (.iastore, 1) := by decide +kernel
theorem d299_149 : decode (hs_code 299) 149 = .ok (.iload_n 3, 1) := by decide +kernel
theorem d299_150 : decode (hs_code 299) 150 = .ok (.ireturn, 1) := by decide +kernel
theorem d300_0 : decode (hs_code 300) 0 = .ok (.aload_n 0, 1) := by decide +kernel
theorem d300_1 : decode (hs_code 300) 1 = .ok (.iconst 0, 1) := by decide +kernel
theorem d300_2 : decode (hs_code 300) 2 = .ok (.putfield 60, 3) := by decide +kernel
theorem d300_5 : decode (hs_code 300) 5 = .ok (.aload_n 0, 1) := by decide +kernel
theorem d300_6 : decode (hs_code 300) 6 = .ok (.iconst 0, 1) := by decide +kernel
theorem d300_7 : decode (hs_code 300) 7 = .ok (.putfield 63, 3) := by decide +kernel
theorem d300_10 : decode (hs_code 300) 10 = .ok (.aload_n 0, 1) := by decide +kernel
theorem d300_11 : decode (hs_code 300) 11 = .ok (.iload_n 1, 1) := by decide +kernel
theorem d300_12 : decode (hs_code 300) 12 = .ok (.invokevirtual 346, 3) := by decide +kernel
theorem d300_15 : decode (hs_code 300) 15 = .ok (.ifCond .ne 9, 3) := by decide +kernel
theorem d300_18 : decode (hs_code 300) 18 = .ok (.aload_n 0, 1) := by decide +kernel
theorem d300_19 : decode (hs_code 300) 19 = .ok (.iconst 2, 1) := by decide +kernel
theorem d300_20 : decode (hs_code 300) 20 = .ok (.invokevirtual 322, 3) := by decide +kernel
theorem d300_23 : decode (hs_code 300) 23 = .ok (.ireturn, 1) := by decide +kernel
theorem d300_24 : decode (hs_code 300) 24 = .ok (.aload_n 0, 1) := by decide +kernel
theorem d300_25 : decode (hs_code 300) 25 = .ok (.iload_n 1, 1) := by decide +kernel
theorem d300_26 : decode (hs_code 300) 26 = .ok (.invokevirtual 394, 3) := by decide +kernel
theorem d300_29 : decode (hs_code 300) 29 = .ok (.ifCond .ne 7, 3) := by decide +kernel
theorem d300_32 : decode (hs_code 300) 32 = .ok (.iconst 1, 1) := by decide +kernel
theorem d300_33 : decode (hs_code 300) 33 = .ok (.goto 4, 3) := by decide +kernel
theorem d300_36 : decode (hs_code 300) 36 = .ok (.iconst 0, 1) := by decide +kernel
theorem d300_37 : decode (hs_code 300) 37 = .ok (.ireturn, 1) := by decide +kernel
theorem d301_0 : decode (hs_code 301) 0 = .ok (.iconst 0, 1) := by decide +kernel
theorem d301_1 : decode (hs_code 301) 1 = .ok (.istore_n 2, 1) := by decide +kernel
theorem d301_2 : decode (hs_code 301) 2 = .ok (.iconst 0, 1) := by decide +kernel
theorem d301_3 : decode (hs_code 301) 3 = .ok (.istore_n 3, 1) := by decide +kernel
theorem d301_4 : decode (hs_code 301) 4 = .ok (.iload_n 3, 1) := by decide +kernel
theorem d301_5 : decode (hs_code 301) 5 = .ok (.aload_n 0, 1) := by decide +kernel
theorem d301_6 : decode (hs_code 301) 6 = .ok (.getfield 35, 3) := by decide +kernel
theorem d301_9 : decode (hs_code 301) 9 = .ok (.iconst 0, 1) := by decide +kernel
theorem d301_10 : decode (hs_code 301) 10 = .ok (.iaload, 1) := by decide +kernel
theorem d301_11 : decode (hs_code 301) 11 = .ok (.if_icmp .ge 26, 3) := by decide +kernel
theorem d301_14 : decode (hs_code 301) 14 = .ok (.iload_n 2, 1) := by decide +kernel
theorem d301_15 : decode (hs_code 301) 15 = .ok (.aload_n 0, 1) := by decide +kernel
theorem d301_16 : decode (hs_code 301) 16 = .ok (.iload_n 1, 1) := by decide +kernel
theorem d301_17 : decode (hs_code 301) 17 = .ok (.iload_n 3, 1) := by decide +kernel
theorem d301_18 : decode (hs_code 301) 18 = .ok (.invokevirtual 391, 3) := by decide +kernel
theorem d301_21 : decode (hs_code 301) 21 = .ok (.ifCond .eq 7, 3) := by decide +kernel
theorem d301_24 : decode (hs_code 301) 24 = .ok (.iconst 0, 1) := by decide +kernel
theorem d301_25 : decode (hs_code 301) 25 = .ok (.goto 4, 3) := by decide +kernel
theorem d301_28 : decode (hs_code 301) 28 = .ok (.iconst 1, 1) := by decide +kernel
theorem d301_29 : decode (hs_code 301) 29 = .ok (.iadd, 1) := by decide +kernel
theorem d301_30 : decode (hs_code 301) 30 = .ok (.istore_n 2, 1) := by decide +kernel
theorem d301_31 : decode (hs_code 301) 31 = .ok (.iinc 3 1, 3) := by decide +kernel
theorem d301_34 : decode (hs_code 301) 34 = .ok (.goto (-30), 3) := by decide +kernel
theorem d301_37 : decode (hs_code 301) 37 = .ok (.iload_n 2, 1) := by decide +kernel
theorem d301_38 : decode (hs_code 301) 38 = .ok (.ireturn, 1) := by decide +kernel
theorem f253_35 : hs_fld (hs_own 253) 35 = some (11, 20, 3, 1) := by decide +kernel
theorem f253_204 : hs_fld (hs_own 253) 204 = some (11, 12, 0, 0) := by decide +kernel
theorem f254_35 : hs_fld (hs_own 254) 35 = some (11, 20, 3, 1) := by decide +kernel
theorem f254_109 : hs_fld (hs_own 254) 109 = some (11, 15, 0, 0) := by decide +kernel
theorem f254_204 : hs_fld (hs_own 254) 204 = some (11, 12, 0, 0) := by decide +kernel
theorem f256_109 : hs_fld (hs_own 256) 109 = some (11, 15, 0, 0) := by decide +kernel
theorem f256_204 : hs_fld (hs_own 256) 204 = some (11, 12, 0, 0) := by decide +kernel
theorem f257_115 : hs_fld (hs_own 257) 115 = some (11, 14, 0, 0) := by decide +kernel
theorem f257_134 : hs_fld (hs_own 257) 134 = some (11, 17, 0, 0) := by decide +kernel
theorem f258_28 : hs_fld (hs_own 258) 28 = some (11, 10, 0, 0) := by decide +kernel
theorem f258_32 : hs_fld (hs_own 258) 32 = some (11, 11, 0, 0) := by decide +kernel
theorem f258_204 : hs_fld (hs_own 258) 204 = some (11, 12, 0, 0) := by decide +kernel
theorem f258_207 : hs_fld (hs_own 258) 207 = some (11, 13, 0, 0) := by decide +kernel
theorem f259_35 : hs_fld (hs_own 259) 35 = some (11, 20, 3, 1) := by decide +kernel
theorem f259_44 : hs_fld (hs_own 259) 44 = some (11, 23, 3, 1) := by decide +kernel
theorem f260_35 : hs_fld (hs_own 260) 35 = some (11, 20, 3, 1) := by decide +kernel
theorem f260_60 : hs_fld (hs_own 260) 60 = some (11, 1, 0, 0) := by decide +kernel
theorem f260_63 : hs_fld (hs_own 260) 63 = some (11, 0, 0, 0) := by decide +kernel
theorem f260_115 : hs_fld (hs_own 260) 115 = some (11, 14, 0, 0) := by decide +kernel
theorem f260_204 : hs_fld (hs_own 260) 204 = some (11, 12, 0, 0) := by decide +kernel
theorem f260_308 : hs_fld (hs_own 260) 308 = some (11, 26, 0, 0) := by decide +kernel
theorem f261_35 : hs_fld (hs_own 261) 35 = some (11, 20, 3, 1) := by decide +kernel
theorem f261_109 : hs_fld (hs_own 261) 109 = some (11, 15, 0, 0) := by decide +kernel
theorem f261_204 : hs_fld (hs_own 261) 204 = some (11, 12, 0, 0) := by decide +kernel
theorem f261_308 : hs_fld (hs_own 261) 308 = some (11, 26, 0, 0) := by decide +kernel
theorem f262_35 : hs_fld (hs_own 262) 35 = some (11, 20, 3, 1) := by decide +kernel
theorem f263_35 : hs_fld (hs_own 263) 35 = some (11, 20, 3, 1) := by decide +kernel
theorem f263_115 : hs_fld (hs_own 263) 115 = some (11, 14, 0, 0) := by decide +kernel
theorem f263_134 : hs_fld (hs_own 263) 134 = some (11, 17, 0, 0) := by decide +kernel
theorem f263_204 : hs_fld (hs_own 263) 204 = some (11, 12, 0, 0) := by decide +kernel
theorem f264_35 : hs_fld (hs_own 264) 35 = some (11, 20, 3, 1) := by decide +kernel
theorem f264_60 : hs_fld (hs_own 264) 60 = some (11, 1, 0, 0) := by decide +kernel
theorem f264_63 : hs_fld (hs_own 264) 63 = some (11, 0, 0, 0) := by decide +kernel
theorem f265_63 : hs_fld (hs_own 265) 63 = some (11, 0, 0, 0) := by decide +kernel
theorem f266_35 : hs_fld (hs_own 266) 35 = some (11, 20, 3, 1) := by decide +kernel
theorem f267_35 : hs_fld (hs_own 267) 35 = some (11, 20, 3, 1) := by decide +kernel
theorem f268_35 : hs_fld (hs_own 268) 35 = some (11, 20, 3, 1) := by decide +kernel
theorem f269_35 : hs_fld (hs_own 269) 35 = some (11, 20, 3, 1) := by decide +kernel
theorem f270_35 : hs_fld (hs_own 270) 35 = some (11, 20, 3, 1) := by decide +kernel
theorem f271_35 : hs_fld (hs_own 271) 35 = some (11, 20, 3, 1) := by decide +kernel
theorem f271_60 : hs_fld (hs_own 271) 60 = some (11, 1, 0, 0) := by decide +kernel
theorem f271_63 : hs_fld (hs_own 271) 63 = some (11, 0, 0, 0) := by decide +kernel
theorem f272_35 : hs_fld (hs_own 272) 35 = some (11, 20, 3, 1) := by decide +kernel
theorem f273_35 : hs_fld (hs_own 273) 35 = some (11, 20, 3, 1) := by decide +kernel
theorem f273_60 : hs_fld (hs_own 273) 60 = some (11, 1, 0, 0) := by decide +kernel
theorem f273_63 : hs_fld (hs_own 273) 63 = some (11, 0, 0, 0) := by decide +kernel
theorem f274_35 : hs_fld (hs_own 274) 35 = some (11, 20, 3, 1) := by decide +kernel
theorem f275_35 : hs_fld (hs_own 275) 35 = some (11, 20, 3, 1) := by decide +kernel
theorem f275_60 : hs_fld (hs_own 275) 60 = some (11, 1, 0, 0) := by decide +kernel
theorem f275_63 : hs_fld (hs_own 275) 63 = some (11, 0, 0, 0) := by decide +kernel
theorem f276_35 : hs_fld (hs_own 276) 35 = some (11, 20, 3, 1) := by decide +kernel
theorem f276_60 : hs_fld (hs_own 276) 60 = some (11, 1, 0, 0) := by decide +kernel
theorem f276_63 : hs_fld (hs_own 276) 63 = some (11, 0, 0, 0) := by decide +kernel
theorem f277_60 : hs_fld (hs_own 277) 60 = some (11, 1, 0, 0) := by decide +kernel
theorem f277_63 : hs_fld (hs_own 277) 63 = some (11, 0, 0, 0) := by decide +kernel
theorem f278_35 : hs_fld (hs_own 278) 35 = some (11, 20, 3, 1) := by decide +kernel
theorem f279_35 : hs_fld (hs_own 279) 35 = some (11, 20, 3, 1) := by decide +kernel
theorem f280_35 : hs_fld (hs_own 280) 35 = some (11, 20, 3, 1) := by decide +kernel
theorem f280_60 : hs_fld (hs_own 280) 60 = some (11, 1, 0, 0) := by decide +kernel
theorem f280_63 : hs_fld (hs_own 280) 63 = some (11, 0, 0, 0) := by decide +kernel
theorem f281_17 : hs_fld (hs_own 281) 17 = some (11, 5, 3, 1) := by decide +kernel
theorem f281_35 : hs_fld (hs_own 281) 35 = some (11, 20, 3, 1) := by decide +kernel
theorem f281_60 : hs_fld (hs_own 281) 60 = some (11, 1, 0, 0) := by decide +kernel
theorem f281_63 : hs_fld (hs_own 281) 63 = some (11, 0, 0, 0) := by decide +kernel
theorem f283_35 : hs_fld (hs_own 283) 35 = some (11, 20, 3, 1) := by decide +kernel
theorem f283_60 : hs_fld (hs_own 283) 60 = some (11, 1, 0, 0) := by decide +kernel
theorem f283_63 : hs_fld (hs_own 283) 63 = some (11, 0, 0, 0) := by decide +kernel
theorem f284_35 : hs_fld (hs_own 284) 35 = some (11, 20, 3, 1) := by decide +kernel
theorem f285_60 : hs_fld (hs_own 285) 60 = some (11, 1, 0, 0) := by decide +kernel
theorem f285_63 : hs_fld (hs_own 285) 63 = some (11, 0, 0, 0) := by decide +kernel
theorem f286_35 : hs_fld (hs_own 286) 35 = some (11, 20, 3, 1) := by decide +kernel
theorem f287_35 : hs_fld (hs_own 287) 35 = some (11, 20, 3, 1) := by decide +kernel
theorem f287_60 : hs_fld (hs_own 287) 60 = some (11, 1, 0, 0) := by decide +kernel
theorem f287_63 : hs_fld (hs_own 287) 63 = some (11, 0, 0, 0) := by decide +kernel
theorem f288_60 : hs_fld (hs_own 288) 60 = some (11, 1, 0, 0) := by decide +kernel
theorem f288_63 : hs_fld (hs_own 288) 63 = some (11, 0, 0, 0) := by decide +kernel
theorem f289_35 : hs_fld (hs_own 289) 35 = some (11, 20, 3, 1) := by decide +kernel
theorem f290_35 : hs_fld (hs_own 290) 35 = some (11, 20, 3, 1) := by decide +kernel
theorem f291_60 : hs_fld (hs_own 291) 60 = some (11, 1, 0, 0) := by decide +kernel
theorem f291_63 : hs_fld (hs_own 291) 63 = some (11, 0, 0, 0) := by decide +kernel
theorem f292_35 : hs_fld (hs_own 292) 35 = some (11, 20, 3, 1) := by decide +kernel
theorem f293_35 : hs_fld (hs_own 293) 35 = some (11, 20, 3, 1) := by decide +kernel
theorem f293_60 : hs_fld (hs_own 293) 60 = some (11, 1, 0, 0) := by decide +kernel
theorem f293_63 : hs_fld (hs_own 293) 63 = some (11, 0, 0, 0) := by decide +kernel
theorem f294_35 : hs_fld (hs_own 294) 35 = some (11, 20, 3, 1) := by decide +kernel
theorem f295_60 : hs_fld (hs_own 295) 60 = some (11, 1, 0, 0) := by decide +kernel
theorem f295_63 : hs_fld (hs_own 295) 63 = some (11, 0, 0, 0) := by decide +kernel
theorem f296_35 : hs_fld (hs_own 296) 35 = some (11, 20, 3, 1) := by decide +kernel
theorem f296_60 : hs_fld (hs_own 296) 60 = some (11, 1, 0, 0) := by decide +kernel
theorem f296_63 : hs_fld (hs_own 296) 63 = some (11, 0, 0, 0) := by decide +kernel
theorem f297_35 : hs_fld (hs_own 297) 35 = some (11, 20, 3, 1) := by decide +kernel
theorem f297_60 : hs_fld (hs_own 297) 60 = some (11, 1, 0, 0) := by decide +kernel
theorem f297_63 : hs_fld (hs_own 297) 63 = some (11, 0, 0, 0) := by decide +kernel
theorem f298_60 : hs_fld (hs_own 298) 60 = some (11, 1, 0, 0) := by decide +kernel
theorem f298_63 : hs_fld (hs_own 298) 63 = some (11, 0, 0, 0) := by decide +kernel
theorem f299_35 : hs_fld (hs_own 299) 35 = some (11, 20, 3, 1) := by decide +kernel
theorem f299_44 : hs_fld (hs_own 299) 44 = some (11, 23, 3, 1) := by decide +kernel
theorem f299_60 : hs_fld (hs_own 299) 60 = some (11, 1, 0, 0) := by decide +kernel
theorem f299_63 : hs_fld (hs_own 299) 63 = some (11, 0, 0, 0) := by decide +kernel
theorem f300_60 : hs_fld (hs_own 300) 60 = some (11, 1, 0, 0) := by decide +kernel
theorem f300_63 : hs_fld (hs_own 300) 63 = some (11, 0, 0, 0) := by decide +kernel
theorem f301_35 : hs_fld (hs_own 301) 35 = some (11, 20, 3, 1) := by decide +kernel
theorem rt253 : hs_ret 253 = none := by decide +kernel
theorem rt254 : hs_ret 254 = none := by decide +kernel
theorem rt255 : hs_ret 255 = (some .int) := by decide +kernel
theorem rt256 : hs_ret 256 = (some .int) := by decide +kernel
theorem rt257 : hs_ret 257 = (some .boolean) := by decide +kernel
theorem rt258 : hs_ret 258 = (some .boolean) := by decide +kernel
theorem rt259 : hs_ret 259 = none := by decide +kernel
theorem rt260 : hs_ret 260 = (some .int) := by decide +kernel
theorem rt261 : hs_ret 261 = none := by decide +kernel
theorem rt262 : hs_ret 262 = none := by decide +kernel
theorem rt263 : hs_ret 263 = none := by decide +kernel
theorem rt264 : hs_ret 264 = (some .int) := by decide +kernel
theorem rt265 : hs_ret 265 = (some .int) := by decide +kernel
theorem rt266 : hs_ret 266 = (some .int) := by decide +kernel
theorem rt267 : hs_ret 267 = (some .int) := by decide +kernel
theorem rt268 : hs_ret 268 = (some .int) := by decide +kernel
theorem rt269 : hs_ret 269 = (some .int) := by decide +kernel
theorem rt270 : hs_ret 270 = (some .int) := by decide +kernel
theorem rt271 : hs_ret 271 = (some .int) := by decide +kernel
theorem rt272 : hs_ret 272 = (some .boolean) := by decide +kernel
theorem rt273 : hs_ret 273 = (some .int) := by decide +kernel
theorem rt274 : hs_ret 274 = (some .boolean) := by decide +kernel
theorem rt275 : hs_ret 275 = (some .int) := by decide +kernel
theorem rt276 : hs_ret 276 = (some .int) := by decide +kernel
theorem rt277 : hs_ret 277 = (some .int) := by decide +kernel
theorem rt278 : hs_ret 278 = (some .boolean) := by decide +kernel
theorem rt279 : hs_ret 279 = (some .int) := by decide +kernel
theorem rt280 : hs_ret 280 = (some .int) := by decide +kernel
theorem rt281 : hs_ret 281 = (some .int) := by decide +kernel
theorem rt282 : hs_ret 282 = (some .boolean) := by decide +kernel
theorem rt283 : hs_ret 283 = (some .int) := by decide +kernel
theorem rt284 : hs_ret 284 = none := by decide +kernel
theorem rt285 : hs_ret 285 = (some .boolean) := by decide +kernel
theorem rt286 : hs_ret 286 = (some .boolean) := by decide +kernel
theorem rt287 : hs_ret 287 = (some .int) := by decide +kernel
theorem rt288 : hs_ret 288 = (some .int) := by decide +kernel
theorem rt289 : hs_ret 289 = (some .int) := by decide +kernel
theorem rt290 : hs_ret 290 = (some .int) := by decide +kernel
theorem rt291 : hs_ret 291 = (some .int) := by decide +kernel
theorem rt292 : hs_ret 292 = (some .int) := by decide +kernel
theorem rt293 : hs_ret 293 = (some .int) := by decide +kernel
theorem rt294 : hs_ret 294 = (some .boolean) := by decide +kernel
theorem rt295 : hs_ret 295 = (some .boolean) := by decide +kernel
theorem rt296 : hs_ret 296 = (some .boolean) := by decide +kernel
theorem rt297 : hs_ret 297 = (some .boolean) := by decide +kernel
theorem rt298 : hs_ret 298 = (some .boolean) := by decide +kernel
theorem rt299 : hs_ret 299 = (some .int) := by decide +kernel
theorem rt300 : hs_ret 300 = (some .int) := by decide +kernel
theorem rt301 : hs_ret 301 = (some .int) := by decide +kernel
section BB
variable {scr : List Int32} {d : Nat} {h : hs_H} {S : List hs_S} {I : Nat → Nat → Int32} {L : Nat → Nat → Int64} {R : Nat → Nat → Nat}
theorem e253 {t0 : Nat} : hs_C scr d 253 [.ref t0] h = hs_R scr d 253 0 [some (.ref t0)] [] h := by rw [hs_C, mL253]; rfl
theorem b253_0 {t0 : Nat} (o_t0 : ok11 S R t0) : hs_R scr (d + 1) 253 0 [some (.ref t0)] [] (S, I, L, R) = ((hs_C scr d 227 [.ref t0, .int 4, .int 6] (S, I, L, R)).bind fun o => hs_R scr (d + 1) 253 7 [some (.ref t0)] (o.1.toList ++ []) o.2) := Eq.trans (r_al_n d253_0 rfl) (Eq.trans (r_ic d253_1 kI_4) (Eq.trans (r_bp d253_2 kB_6) (r_cvE (as := [.int 4, .int 6]) (r := []) d253_4 c253_254 ow227 o_t0.2.1 np227.symm rfl (hs_fitE mL227 (Nat.le_of_ble_eq_true rfl)))))
theorem b253_7 {t0 : Nat} {s0 : Int32} (o_t0 : ok11 S R t0) : hs_R scr d 253 7 [some (.ref t0)] [.int s0] (S, I, L, R) = (if (I t0 12) = 0 then hs_R scr d 253 27 [some (.ref t0)] [] (S, (hs_u I (t0 + 5) 1600 ((I (t0 + 5) 1600) + 1)), L, R) else hs_R scr d 253 27 [some (.ref t0)] [] (S, I, L, R)) := Eq.trans (r_pop d253_7 rfl) (Eq.trans (r_al_n d253_8 rfl) (Eq.trans (r_getI d253_9 f253_204 o_t0.2.1) (Eq.trans (r_zne d253_12 rfl) (q_ite (Eq.trans (r_al_n d253_15 rfl) (Eq.trans (r_getRe d253_16 f253_35 o_t0.2.1 (o_t0.2.2.2.2.2.2.2.2.2.2.1) (Nat.le_trans o_t0.1 (Nat.le_add_right _ _))) (Eq.trans (r_sp d253_19 kS_1600) (Eq.trans (r_dup2 d253_22 ⟨rfl, rfl⟩) (Eq.trans ((r_ialdC d253_23 (o_t0.2.2.2.2.2.2.2.2.2.2.2.1) ib_1600_1995 tn_1600)) (Eq.trans (r_ic d253_24 kI_1) (Eq.trans (r_iadd d253_25) (Eq.trans ((r_iastC d253_26 (o_t0.2.2.2.2.2.2.2.2.2.2.2.1) ib_1600_1995 tn_1600)) (rfl))))))))) (rfl)))))
theorem b253_27 {t0 : Nat}  : hs_R scr d 253 27 [some (.ref t0)] [] (S, I, L, R) = some (none, (S, I, L, R)) := r_rv d253_27 rt253
theorem e254 {t0 : Nat} : hs_C scr d 254 [.ref t0] h = hs_R scr d 254 0 [some (.ref t0), none, none, none] [] h := by rw [hs_C, mL254]; rfl
theorem b254_0 {t0 : Nat} (o_t0 : ok11 S R t0) : hs_R scr (d + 1) 254 0 [some (.ref t0), none, none, none] [] (S, I, L, R) = (if (I (t0 + 5) 1601) = 10 then ((hs_C scr d 220 [.ref t0, .int 6, .int (I t0 15)] (S, I, L, R)).bind fun o => hs_R scr (d + 1) 254 25 [some (.ref t0), some (.int (I (t0 + 5) 1601)), none, none] (o.1.toList ++ []) o.2) else hs_R scr (d + 1) 254 25 [some (.ref t0), some (.int (I (t0 + 5) 1601)), none, none] [] (S, I, L, R)) := Eq.trans (r_al_n d254_0 rfl) (Eq.trans (r_getRe d254_1 f254_35 o_t0.2.1 (o_t0.2.2.2.2.2.2.2.2.2.2.1) (Nat.le_trans o_t0.1 (Nat.le_add_right _ _))) (Eq.trans (r_sp d254_4 kS_1601) (Eq.trans ((r_ialdC d254_7 (o_t0.2.2.2.2.2.2.2.2.2.2.2.1) ib_1601_1995 tn_1601)) (Eq.trans (r_is_n (loc' := [some (.ref t0), some (.int (I (t0 + 5) 1601)), none, none]) d254_8 rfl) (Eq.trans (r_il_n d254_9 rfl) (Eq.trans (r_bp d254_10 kB_10) (Eq.trans (r_cne d254_12 rfl) (q_ite (Eq.trans (r_al_n d254_15 rfl) (Eq.trans (r_bp d254_16 kB_6) (Eq.trans (r_al_n d254_18 rfl) (Eq.trans (r_getI d254_19 f254_109 o_t0.2.1) (r_cvE (as := [.int 6, .int (I t0 15)]) (r := []) d254_22 c254_210 ow220 o_t0.2.1 np220.symm rfl (hs_fitE mL220 (Nat.le_of_ble_eq_true rfl))))))) (rfl)))))))))
theorem b254_25 {t0 : Nat} {x1 : Int32} (o_t0 : ok11 S R t0) : hs_R scr (d + 1) 254 25 [some (.ref t0), some (.int x1), none, none] [] (S, I, L, R) = (if (I t0 12) ≤ 0 then ((hs_C scr d 209 [.ref t0] (S, I, L, R)).bind fun o => hs_R scr (d + 1) 254 37 [some (.ref t0), some (.int x1), none, none] (o.1.toList ++ []) o.2) else some (none, (S, I, L, R))) := Eq.trans (r_al_n d254_25 rfl) (Eq.trans (r_getI d254_26 f254_204 o_t0.2.1) (Eq.trans (r_zle d254_29 rfl) (q_ite (Eq.trans (r_al_n d254_33 rfl) (r_cvE (as := []) (r := []) d254_34 c254_214 ow209 o_t0.2.1 np209.symm rfl (hs_fitE mL209 (Nat.le_of_ble_eq_true rfl)))) (r_rv d254_32 rt254))))
theorem b254_37 {t0 : Nat} {x1 : Int32} (o_t0 : ok11 S R t0) : hs_R scr (d + 1) 254 37 [some (.ref t0), some (.int x1), none, none] [] (S, I, L, R) = ((hs_C scr d 255 [.ref t0, .int 4, .int 4] (S, I, L, R)).bind fun o => hs_R scr (d + 1) 254 43 [some (.ref t0), some (.int x1), none, none] (o.1.toList ++ []) o.2) := Eq.trans (r_al_n d254_37 rfl) (Eq.trans (r_ic d254_38 kI_4) (Eq.trans (r_ic d254_39 kI_4) (r_cvE (as := [.int 4, .int 4]) (r := []) d254_40 c254_265 ow255 o_t0.2.1 np255.symm rfl (hs_fitE mL255 (Nat.le_of_ble_eq_true rfl)))))
theorem b254_43 {t0 : Nat} {x1 s0 : Int32} (o_t0 : ok11 S R t0) : hs_R scr (d + 1) 254 43 [some (.ref t0), some (.int x1), none, none] [.int s0] (S, I, L, R) = ((hs_C scr d 256 [.ref t0, .int 4, .int 4] (S, I, L, R)).bind fun o => hs_R scr (d + 1) 254 50 [some (.ref t0), some (.int x1), some (.int s0), none] (o.1.toList ++ []) o.2) := Eq.trans (r_is_n (loc' := [some (.ref t0), some (.int x1), some (.int s0), none]) d254_43 rfl) (Eq.trans (r_al_n d254_44 rfl) (Eq.trans (r_ic d254_45 kI_4) (Eq.trans (r_ic d254_46 kI_4) (r_cvE (as := [.int 4, .int 4]) (r := []) d254_47 c254_248 ow256 o_t0.2.1 np256.symm rfl (hs_fitE mL256 (Nat.le_of_ble_eq_true rfl))))))
theorem b254_50 {t0 : Nat} {x1 x2 s0 : Int32} (o_t0 : ok11 S R t0) : hs_R scr (d + 1) 254 50 [some (.ref t0), some (.int x1), some (.int x2), none] [.int s0] (S, I, L, R) = (if (I t0 12) = 0 then (if x2 = s0 then ((hs_C scr d 220 [.ref t0, .int 5, .int (I t0 15)] (S, I, L, R)).bind fun o => hs_R scr (d + 1) 254 72 [some (.ref t0), some (.int x1), some (.int x2), some (.int s0)] (o.1.toList ++ []) o.2) else hs_R scr (d + 1) 254 72 [some (.ref t0), some (.int x1), some (.int x2), some (.int s0)] [] (S, I, L, R)) else hs_R scr (d + 1) 254 72 [some (.ref t0), some (.int x1), some (.int x2), some (.int s0)] [] (S, I, L, R)) := Eq.trans (r_is_n (loc' := [some (.ref t0), some (.int x1), some (.int x2), some (.int s0)]) d254_50 rfl) (Eq.trans (r_al_n d254_51 rfl) (Eq.trans (r_getI d254_52 f254_204 o_t0.2.1) (Eq.trans (r_zne d254_55 rfl) (q_ite (Eq.trans (r_il_n d254_58 rfl) (Eq.trans (r_il_n d254_59 rfl) (Eq.trans (r_cne d254_60 rfl) (q_ite (Eq.trans (r_al_n d254_63 rfl) (Eq.trans (r_ic d254_64 kI_5) (Eq.trans (r_al_n d254_65 rfl) (Eq.trans (r_getI d254_66 f254_109 o_t0.2.1) (r_cvE (as := [.int 5, .int (I t0 15)]) (r := []) d254_69 c254_210 ow220 o_t0.2.1 np220.symm rfl (hs_fitE mL220 (Nat.le_of_ble_eq_true rfl))))))) (rfl))))) (rfl)))))
theorem b254_72 {t0 : Nat} {x1 x2 x3 : Int32} (o_t0 : ok11 S R t0) : hs_R scr (d + 1) 254 72 [some (.ref t0), some (.int x1), some (.int x2), some (.int x3)] [] (S, I, L, R) = ((hs_C scr d 248 [.ref t0, .int 1] (S, I, L, R)).bind fun o => hs_R scr (d + 1) 254 77 [some (.ref t0), some (.int x1), some (.int x2), some (.int x3)] (o.1.toList ++ []) o.2) := Eq.trans (r_al_n d254_72 rfl) (Eq.trans (r_ic d254_73 kI_1) (r_cvE (as := [.int 1]) (r := []) d254_74 c254_220 ow248 o_t0.2.1 np248.symm rfl (hs_fitE mL248 (Nat.le_of_ble_eq_true rfl))))
theorem b254_77 {t0 : Nat} {x1 x2 x3 : Int32} (o_t0 : ok11 S R t0) : hs_R scr d 254 77 [some (.ref t0), some (.int x1), some (.int x2), some (.int x3)] [] (S, I, L, R) = (if (I t0 12) ≤ 0 then (if hs_ib ((1703 : Int32) + x1) 1995 = true then (if hs_ib ((1713 : Int32) + x1) 1995 = true then some (none, (S, (hs_u (hs_u (hs_u I (t0 + 5) (Int32.toNatClampNeg ((1703 : Int32) + x1)) x2) (t0 + 5) (Int32.toNatClampNeg ((1713 : Int32) + x1)) x3) (t0 + 5) 1601 (((hs_u (hs_u I (t0 + 5) (Int32.toNatClampNeg ((1703 : Int32) + x1)) x2) (t0 + 5) (Int32.toNatClampNeg ((1713 : Int32) + x1)) x3) (t0 + 5) 1601) + 1)), L, R)) else none) else none) else some (none, (S, I, L, R))) := Eq.trans (r_al_n d254_77 rfl) (Eq.trans (r_getI d254_78 f254_204 o_t0.2.1) (Eq.trans (r_zle d254_81 rfl) (q_ite (Eq.trans (r_al_n d254_85 rfl) (Eq.trans (r_getRe d254_86 f254_35 o_t0.2.1 (o_t0.2.2.2.2.2.2.2.2.2.2.1) (Nat.le_trans o_t0.1 (Nat.le_add_right _ _))) (Eq.trans (r_sp d254_89 kS_1703) (Eq.trans (r_il_n d254_92 rfl) (Eq.trans (r_iadd d254_93) (Eq.trans (r_il_n d254_94 rfl) (Eq.trans (r_iast d254_95 (o_t0.2.2.2.2.2.2.2.2.2.2.2.1)) (q_ite (Eq.trans (r_al_n d254_96 rfl) (Eq.trans (r_getRe d254_97 f254_35 o_t0.2.1 (o_t0.2.2.2.2.2.2.2.2.2.2.1) (Nat.le_trans o_t0.1 (Nat.le_add_right _ _))) (Eq.trans (r_sp d254_100 kS_1713) (Eq.trans (r_il_n d254_103 rfl) (Eq.trans (r_iadd d254_104) (Eq.trans (r_il_n d254_105 rfl) (Eq.trans (r_iast d254_106 (o_t0.2.2.2.2.2.2.2.2.2.2.2.1)) (q_ite (Eq.trans (r_al_n d254_107 rfl) (Eq.trans (r_getRe d254_108 f254_35 o_t0.2.1 (o_t0.2.2.2.2.2.2.2.2.2.2.1) (Nat.le_trans o_t0.1 (Nat.le_add_right _ _))) (Eq.trans (r_sp d254_111 kS_1601) (Eq.trans (r_dup2 d254_114 ⟨rfl, rfl⟩) (Eq.trans ((r_ialdC d254_115 (o_t0.2.2.2.2.2.2.2.2.2.2.2.1) ib_1601_1995 tn_1601)) (Eq.trans (r_ic d254_116 kI_1) (Eq.trans (r_iadd d254_117) (Eq.trans ((r_iastC d254_118 (o_t0.2.2.2.2.2.2.2.2.2.2.2.1) ib_1601_1995 tn_1601)) (r_rv d254_119 rt254))))))))) rfl)))))))) rfl)))))))) (r_rv d254_84 rt254))))
theorem e255 {t0 : Nat} {x1 : Int32} {x2 : Int32} : hs_C scr d 255 [.ref t0, .int x1, .int x2] h = hs_R scr d 255 0 [some (.ref t0), some (.int x1), some (.int x2), none] [] h := by rw [hs_C, mL255]; rfl
theorem b255_0 {t0 : Nat} {x1 x2 : Int32} (o_t0 : ok11 S R t0) : hs_R scr (d + 1) 255 0 [some (.ref t0), some (.int x1), some (.int x2), none] [] (S, I, L, R) = ((hs_C scr d 256 [.ref t0, .int x1, .int x2] (S, I, L, R)).bind fun o => hs_R scr (d + 1) 255 6 [some (.ref t0), some (.int x1), some (.int x2), none] (o.1.toList ++ []) o.2) := Eq.trans (r_al_n d255_0 rfl) (Eq.trans (r_il_n d255_1 rfl) (Eq.trans (r_il_n d255_2 rfl) (r_cvE (as := [.int x1, .int x2]) (r := []) d255_3 c255_248 ow256 o_t0.2.1 np256.symm rfl (hs_fitE mL256 (Nat.le_of_ble_eq_true rfl)))))
theorem b255_6 {t0 : Nat} {x1 x2 s0 : Int32} (o_t0 : ok11 S R t0) : hs_R scr (d + 1) 255 6 [some (.ref t0), some (.int x1), some (.int x2), none] [.int s0] (S, I, L, R) = ((hs_C scr d 248 [.ref t0, .int 1] (S, I, L, R)).bind fun o => hs_R scr (d + 1) 255 12 [some (.ref t0), some (.int x1), some (.int x2), some (.int s0)] (o.1.toList ++ []) o.2) := Eq.trans (r_is_n (loc' := [some (.ref t0), some (.int x1), some (.int x2), some (.int s0)]) d255_6 rfl) (Eq.trans (r_al_n d255_7 rfl) (Eq.trans (r_ic d255_8 kI_1) (r_cvE (as := [.int 1]) (r := []) d255_9 c255_220 ow248 o_t0.2.1 np248.symm rfl (hs_fitE mL248 (Nat.le_of_ble_eq_true rfl)))))
theorem b255_12 {t0 : Nat} {x1 x2 x3 : Int32}  : hs_R scr d 255 12 [some (.ref t0), some (.int x1), some (.int x2), some (.int x3)] [] (S, I, L, R) = some (some (.int x3), (S, I, L, R)) := Eq.trans (r_il_n d255_12 rfl) (r_ri d255_13 rt255)
theorem e256 {t0 : Nat} {x1 : Int32} {x2 : Int32} : hs_C scr d 256 [.ref t0, .int x1, .int x2] h = hs_R scr d 256 0 [some (.ref t0), some (.int x1), some (.int x2), none] [] h := by rw [hs_C, mL256]; rfl
theorem b256_0 {t0 : Nat} {x1 x2 : Int32} (o_t0 : ok11 S R t0) : hs_R scr (d + 1) 256 0 [some (.ref t0), some (.int x1), some (.int x2), none] [] (S, I, L, R) = (if (I t0 12) = 0 then ((hs_C scr d 228 [.ref t0] (S, I, L, R)).bind fun o => hs_R scr (d + 1) 256 11 [some (.ref t0), some (.int x1), some (.int x2), none] (o.1.toList ++ []) o.2) else hs_R scr (d + 1) 256 18 [some (.ref t0), some (.int x1), some (.int x2), none] [] (S, I, L, R)) := Eq.trans (r_al_n d256_0 rfl) (Eq.trans (r_getI d256_1 f256_204 o_t0.2.1) (Eq.trans (r_zne d256_4 rfl) (q_ite (Eq.trans (r_al_n d256_7 rfl) (r_cvE (as := []) (r := []) d256_8 c256_239 ow228 o_t0.2.1 np228.symm rfl (hs_fitE mL228 (Nat.le_of_ble_eq_true rfl)))) (rfl))))
theorem b256_11 {t0 : Nat} {x1 x2 s0 : Int32} (o_t0 : ok11 S R t0) : hs_R scr (d + 1) 256 11 [some (.ref t0), some (.int x1), some (.int x2), none] [.int s0] (S, I, L, R) = (if s0 = 0 then ((hs_C scr d 222 [.ref t0] (S, I, L, R)).bind fun o => hs_R scr (d + 1) 256 18 [some (.ref t0), some (.int x1), some (.int x2), none] (o.1.toList ++ []) o.2) else hs_R scr (d + 1) 256 18 [some (.ref t0), some (.int x1), some (.int x2), none] [] (S, I, L, R)) := Eq.trans (r_zne d256_11 rfl) (q_ite (Eq.trans (r_al_n d256_14 rfl) (r_cvE (as := []) (r := []) d256_15 c256_217 ow222 o_t0.2.1 np222.symm rfl (hs_fitE mL222 (Nat.le_of_ble_eq_true rfl)))) (rfl))
theorem b256_18 {t0 : Nat} {x1 x2 : Int32} (o_t0 : ok11 S R t0) : hs_R scr (d + 1) 256 18 [some (.ref t0), some (.int x1), some (.int x2), none] [] (S, I, L, R) = (if (I t0 12) ≤ 0 then ((hs_C scr d 245 [.ref t0, .int x1, .int x2] (S, I, L, R)).bind fun o => hs_R scr (d + 1) 256 33 [some (.ref t0), some (.int x1), some (.int x2), none] (o.1.toList ++ []) o.2) else some (some (.int 0), (S, I, L, R))) := Eq.trans (r_al_n d256_18 rfl) (Eq.trans (r_getI d256_19 f256_204 o_t0.2.1) (Eq.trans (r_zle d256_22 rfl) (q_ite (Eq.trans (r_al_n d256_27 rfl) (Eq.trans (r_il_n d256_28 rfl) (Eq.trans (r_il_n d256_29 rfl) (r_cvE (as := [.int x1, .int x2]) (r := []) d256_30 c256_236 ow245 o_t0.2.1 np245.symm rfl (hs_fitE mL245 (Nat.le_of_ble_eq_true rfl)))))) (Eq.trans (r_ic d256_25 kI_0) (r_ri d256_26 rt256)))))
theorem b256_33 {t0 : Nat} {x1 x2 s0 : Int32} (o_t0 : ok11 S R t0) : hs_R scr (d + 1) 256 33 [some (.ref t0), some (.int x1), some (.int x2), none] [.int s0] (S, I, L, R) = (if (0 : Int32) ≤ s0 then hs_R scr (d + 1) 256 47 [some (.ref t0), some (.int x1), some (.int x2), some (.int s0)] [] (S, I, L, R) else ((hs_C scr d 220 [.ref t0, .int 3, .int (I t0 15)] (S, I, L, R)).bind fun o => hs_R scr (d + 1) 256 47 [some (.ref t0), some (.int x1), some (.int x2), some (.int s0)] (o.1.toList ++ []) o.2)) := Eq.trans (r_is_n (loc' := [some (.ref t0), some (.int x1), some (.int x2), some (.int s0)]) d256_33 rfl) (Eq.trans (r_il_n d256_34 rfl) (Eq.trans (r_zge d256_35 rfl) (q_ite (rfl) (Eq.trans (r_al_n d256_38 rfl) (Eq.trans (r_ic d256_39 kI_3) (Eq.trans (r_al_n d256_40 rfl) (Eq.trans (r_getI d256_41 f256_109 o_t0.2.1) (r_cvE (as := [.int 3, .int (I t0 15)]) (r := []) d256_44 c256_210 ow220 o_t0.2.1 np220.symm rfl (hs_fitE mL220 (Nat.le_of_ble_eq_true rfl))))))))))
theorem b256_47 {t0 : Nat} {x1 x2 x3 : Int32}  : hs_R scr d 256 47 [some (.ref t0), some (.int x1), some (.int x2), some (.int x3)] [] (S, I, L, R) = some (some (.int (if (0 : Int32) < x3 then x3 else (0 : Int32))), (S, I, L, R)) := Eq.trans (r_ic d256_47 kI_0) (Eq.trans (r_il_n d256_48 rfl) (Eq.trans (r_max d256_49 c256_245 rfl) (r_ri d256_52 rt256)))
theorem e257 {t0 : Nat} {x1 : Int32} : hs_C scr d 257 [.ref t0, .int x1] h = hs_R scr d 257 0 [some (.ref t0), some (.int x1)] [] h := by rw [hs_C, mL257]; rfl
theorem b257_0 {t0 : Nat} {x1 : Int32} (o_t0 : ok11 S R t0) : hs_R scr d 257 0 [some (.ref t0), some (.int x1)] [] (S, I, L, R) = (if (I t0 14) = 3 then (if (I t0 17) = x1 then hs_R scr d 257 21 [some (.ref t0), some (.int x1)] [.int 1] (S, I, L, R) else hs_R scr d 257 20 [some (.ref t0), some (.int x1)] [] (S, I, L, R)) else hs_R scr d 257 20 [some (.ref t0), some (.int x1)] [] (S, I, L, R)) := Eq.trans (r_al_n d257_0 rfl) (Eq.trans (r_getI d257_1 f257_115 o_t0.2.1) (Eq.trans (r_ic d257_4 kI_3) (Eq.trans (r_cne d257_5 rfl) (q_ite (Eq.trans (r_al_n d257_8 rfl) (Eq.trans (r_getI d257_9 f257_134 o_t0.2.1) (Eq.trans (r_il_n d257_12 rfl) (Eq.trans (r_cne d257_13 rfl) (q_ite (Eq.trans (r_ic d257_16 kI_1) (Eq.trans (r_goto d257_17 rfl) (rfl))) (rfl)))))) (rfl)))))
theorem b257_20 {t0 : Nat} {x1 : Int32}  : hs_R scr d 257 20 [some (.ref t0), some (.int x1)] [] (S, I, L, R) = hs_R scr d 257 21 [some (.ref t0), some (.int x1)] [.int 0] (S, I, L, R) := Eq.trans (r_ic d257_20 kI_0) (rfl)
theorem b257_21 {t0 : Nat} {x1 s0 : Int32}  : hs_R scr d 257 21 [some (.ref t0), some (.int x1)] [.int s0] (S, I, L, R) = (if s0 = 0 ∨ s0 = 1 then some (some (.int s0), (S, I, L, R)) else none) := r_rz d257_21 rt257
theorem e258 {t0 : Nat} : hs_C scr d 258 [.ref t0] h = hs_R scr d 258 0 [some (.ref t0)] [] h := by rw [hs_C, mL258]; rfl
theorem b258_0 {t0 : Nat} (o_t0 : ok11 S R t0) : hs_R scr d 258 0 [some (.ref t0)] [] (S, I, L, R) = (if ((hs_u I t0 10 (I t0 12)) t0 12) = 0 then hs_R scr d 258 24 [some (.ref t0)] [.int (-1), .ref t0] (S, (hs_u I t0 10 (I t0 12)), L, R) else hs_R scr d 258 24 [some (.ref t0)] [.int ((hs_u I t0 10 (I t0 12)) t0 13), .ref t0] (S, (hs_u I t0 10 (I t0 12)), L, R)) := Eq.trans (r_al_n d258_0 rfl) (Eq.trans (r_al_n d258_1 rfl) (Eq.trans (r_getI d258_2 f258_204 o_t0.2.1) (Eq.trans (r_putI d258_5 f258_28 o_t0.2.1) (Eq.trans (r_al_n d258_8 rfl) (Eq.trans (r_al_n d258_9 rfl) (Eq.trans (r_getI d258_10 f258_204 o_t0.2.1) (Eq.trans (r_zne d258_13 rfl) (q_ite (Eq.trans (r_ic d258_16 kI_m1) (Eq.trans (r_goto d258_17 rfl) (rfl))) (Eq.trans (r_al_n d258_20 rfl) (Eq.trans (r_getI d258_21 f258_207 o_t0.2.1) (rfl)))))))))))
theorem b258_24 {t0 u0 : Nat} {s1 : Int32} (o_u0 : ok11 S R u0) (o_t0 : ok11 S R t0) : hs_R scr (d + 1) 258 24 [some (.ref t0)] [.int s1, .ref u0] (S, I, L, R) = (if ((hs_u I u0 11 s1) t0 12) = 0 then hs_R scr (d + 1) 258 43 [some (.ref t0)] [] (S, (hs_u I u0 11 s1), L, R) else ((hs_C scr d 197 [.ref t0, .int 10] (S, (hs_u I u0 11 s1), L, R)).bind fun o => hs_R scr (d + 1) 258 40 [some (.ref t0)] (o.1.toList ++ []) o.2)) := Eq.trans (r_putI d258_24 f258_32 o_u0.2.1) (Eq.trans (r_al_n d258_27 rfl) (Eq.trans (r_getI d258_28 f258_204 o_t0.2.1) (Eq.trans (r_zeq d258_31 rfl) (q_ite (rfl) (Eq.trans (r_al_n d258_34 rfl) (Eq.trans (r_bp d258_35 kB_10) (r_cvE (as := [.int 10]) (r := []) d258_37 c258_75 ow197 o_t0.2.1 np197.symm rfl (hs_fitE mL197 (Nat.le_of_ble_eq_true rfl)))))))))
theorem b258_40 {t0 : Nat} {s0 : Int32}  : hs_R scr d 258 40 [some (.ref t0)] [.int s0] (S, I, L, R) = (if s0 = 0 then hs_R scr d 258 48 [some (.ref t0)] [.int 0] (S, I, L, R) else hs_R scr d 258 43 [some (.ref t0)] [] (S, I, L, R)) := Eq.trans (r_zeq d258_40 rfl) (q_ite (Eq.trans (r_ic d258_47 kI_0) (rfl)) (rfl))
theorem b258_43 {t0 : Nat}  : hs_R scr d 258 43 [some (.ref t0)] [] (S, I, L, R) = hs_R scr d 258 48 [some (.ref t0)] [.int 1] (S, I, L, R) := Eq.trans (r_ic d258_43 kI_1) (Eq.trans (r_goto d258_44 rfl) (rfl))
theorem b258_48 {t0 : Nat} {s0 : Int32}  : hs_R scr d 258 48 [some (.ref t0)] [.int s0] (S, I, L, R) = (if s0 = 0 ∨ s0 = 1 then some (some (.int s0), (S, I, L, R)) else none) := r_rz d258_48 rt258
theorem e259 {t0 : Nat} {x1 : Int32} {x2 : Int32} : hs_C scr d 259 [.ref t0, .int x1, .int x2] h = hs_R scr d 259 0 [some (.ref t0), some (.int x1), some (.int x2), none] [] h := by rw [hs_C, mL259]; rfl
theorem b259_0 {t0 : Nat} {x1 x2 : Int32}  : hs_R scr d 259 0 [some (.ref t0), some (.int x1), some (.int x2), none] [] (S, I, L, R) = hs_R scr d 259 2 [some (.ref t0), some (.int x1), some (.int x2), some (.int 0)] [] (S, I, L, R) := Eq.trans (r_ic d259_0 kI_0) (Eq.trans (r_is_n (loc' := [some (.ref t0), some (.int x1), some (.int x2), some (.int 0)]) d259_1 rfl) (rfl))
theorem b259_2 {t0 : Nat} {x1 x2 x3 : Int32} (o_t0 : ok11 S R t0) : hs_R scr d 259 2 [some (.ref t0), some (.int x1), some (.int x2), some (.int x3)] [] (S, I, L, R) = (if (399 : Int32) ≤ x3 then hs_R scr d 259 41 [some (.ref t0), some (.int x1), some (.int x2), some (.int 0)] [] (S, I, L, R) else (if hs_ib (((399 : Int32) * x1) + x3) 1995 = true then (if hs_ib (((399 : Int32) * x2) + x3) 1995 = true then hs_R scr d 259 2 [some (.ref t0), some (.int x1), some (.int x2), some (.int (x3 + 1))] [] (S, (hs_u I (t0 + 5) (Int32.toNatClampNeg (((399 : Int32) * x2) + x3)) (I (t0 + 5) (Int32.toNatClampNeg (((399 : Int32) * x1) + x3)))), L, R) else none) else none)) := Eq.trans (r_il_n d259_2 rfl) (Eq.trans (r_sp d259_3 kS_399) (Eq.trans (r_cge d259_6 rfl) (q_ite (Eq.trans (r_ic d259_39 kI_0) (Eq.trans (r_is_n (loc' := [some (.ref t0), some (.int x1), some (.int x2), some (.int 0)]) d259_40 rfl) (rfl))) (Eq.trans (r_al_n d259_9 rfl) (Eq.trans (r_getRe d259_10 f259_35 o_t0.2.1 (o_t0.2.2.2.2.2.2.2.2.2.2.1) (Nat.le_trans o_t0.1 (Nat.le_add_right _ _))) (Eq.trans (r_sp d259_13 kS_399) (Eq.trans (r_il_n d259_16 rfl) (Eq.trans (r_imul d259_17) (Eq.trans (r_il_n d259_18 rfl) (Eq.trans (r_iadd d259_19) (Eq.trans (r_al_n d259_20 rfl) (Eq.trans (r_getRe d259_21 f259_35 o_t0.2.1 (o_t0.2.2.2.2.2.2.2.2.2.2.1) (Nat.le_trans o_t0.1 (Nat.le_add_right _ _))) (Eq.trans (r_sp d259_24 kS_399) (Eq.trans (r_il_n d259_27 rfl) (Eq.trans (r_imul d259_28) (Eq.trans (r_il_n d259_29 rfl) (Eq.trans (r_iadd d259_30) (Eq.trans (r_iald d259_31 (o_t0.2.2.2.2.2.2.2.2.2.2.2.1)) (q_ite (Eq.trans (r_iast d259_32 (o_t0.2.2.2.2.2.2.2.2.2.2.2.1)) (q_ite (Eq.trans (r_inc (loc' := [some (.ref t0), some (.int x1), some (.int x2), some (.int (x3 + 1))]) d259_33 kI_1 rfl rfl) (Eq.trans (r_goto d259_36 rfl) (rfl))) rfl)) rfl)))))))))))))))))))
theorem b259_41 {t0 : Nat} {x1 x2 x3 : Int32} (o_t0 : ok11 S R t0) : hs_R scr d 259 41 [some (.ref t0), some (.int x1), some (.int x2), some (.int x3)] [] (S, I, L, R) = (if (31 : Int32) ≤ x3 then some (none, (S, I, L, R)) else (if hs_ib (((31 : Int32) * x1) + x3) 155 = true then (if hs_ib (((31 : Int32) * x2) + x3) 155 = true then hs_R scr d 259 41 [some (.ref t0), some (.int x1), some (.int x2), some (.int (x3 + 1))] [] (S, I, (hs_u L (t0 + 8) (Int32.toNatClampNeg (((31 : Int32) * x2) + x3)) (L (t0 + 8) (Int32.toNatClampNeg (((31 : Int32) * x1) + x3)))), R) else none) else none)) := Eq.trans (r_il_n d259_41 rfl) (Eq.trans (r_bp d259_42 kB_31) (Eq.trans (r_cge d259_44 rfl) (q_ite (r_rv d259_75 rt259) (Eq.trans (r_al_n d259_47 rfl) (Eq.trans (r_getRe d259_48 f259_44 o_t0.2.1 (o_t0.2.2.2.2.2.2.2.2.2.2.2.2.2.2.2.2.1) (Nat.le_trans o_t0.1 (Nat.le_add_right _ _))) (Eq.trans (r_bp d259_51 kB_31) (Eq.trans (r_il_n d259_53 rfl) (Eq.trans (r_imul d259_54) (Eq.trans (r_il_n d259_55 rfl) (Eq.trans (r_iadd d259_56) (Eq.trans (r_al_n d259_57 rfl) (Eq.trans (r_getRe d259_58 f259_44 o_t0.2.1 (o_t0.2.2.2.2.2.2.2.2.2.2.2.2.2.2.2.2.1) (Nat.le_trans o_t0.1 (Nat.le_add_right _ _))) (Eq.trans (r_bp d259_61 kB_31) (Eq.trans (r_il_n d259_63 rfl) (Eq.trans (r_imul d259_64) (Eq.trans (r_il_n d259_65 rfl) (Eq.trans (r_iadd d259_66) (Eq.trans (r_lald d259_67 (o_t0.2.2.2.2.2.2.2.2.2.2.2.2.2.2.2.2.2.1)) (q_ite (Eq.trans (r_last d259_68 (o_t0.2.2.2.2.2.2.2.2.2.2.2.2.2.2.2.2.2.1)) (q_ite (Eq.trans (r_inc (loc' := [some (.ref t0), some (.int x1), some (.int x2), some (.int (x3 + 1))]) d259_69 kI_1 rfl rfl) (Eq.trans (r_goto d259_72 rfl) (rfl))) rfl)) rfl)))))))))))))))))))
theorem e260 {t0 : Nat} {x1 : Int32} : hs_C scr d 260 [.ref t0, .int x1] h = hs_R scr d 260 0 [some (.ref t0), some (.int x1), none] [] h := by rw [hs_C, mL260]; rfl
theorem b260_0 {t0 : Nat} {x1 : Int32} (o_t0 : ok11 S R t0) : hs_R scr (d + 1) 260 0 [some (.ref t0), some (.int x1), none] [] (S, I, L, R) = ((hs_C scr d 208 [.ref t0, .int x1, .int 300] (S, (hs_u (hs_u I t0 1 0) t0 0 0), L, R)).bind fun o => hs_R scr (d + 1) 260 18 [some (.ref t0), some (.int x1), none] (o.1.toList ++ []) o.2) := Eq.trans (r_al_n d260_0 rfl) (Eq.trans (r_ic d260_1 kI_0) (Eq.trans (r_putI d260_2 f260_60 o_t0.2.1) (Eq.trans (r_al_n d260_5 rfl) (Eq.trans (r_ic d260_6 kI_0) (Eq.trans (r_putI d260_7 f260_63 o_t0.2.1) (Eq.trans (r_al_n d260_10 rfl) (Eq.trans (r_il_n d260_11 rfl) (Eq.trans (r_sp d260_12 kS_300) (r_cvE (as := [.int x1, .int 300]) (r := []) d260_15 c260_290 ow208 o_t0.2.1 np208.symm rfl (hs_fitE mL208 (Nat.le_of_ble_eq_true rfl)))))))))))
theorem b260_18 {t0 : Nat} {x1 s0 : Int32} (o_t0 : ok11 S R t0) : hs_R scr d 260 18 [some (.ref t0), some (.int x1), none] [.int s0] (S, I, L, R) = (if s0 = 0 then some (some (.int (-1)), (S, I, L, R)) else hs_R scr d 260 28 [some (.ref t0), some (.int x1), none] [] (S, (hs_u I t0 26 0), L, R)) := Eq.trans (r_zne d260_18 rfl) (q_ite (Eq.trans (r_ic d260_21 kI_m1) (r_ri d260_22 rt260)) (Eq.trans (r_al_n d260_23 rfl) (Eq.trans (r_ic d260_24 kI_0) (Eq.trans (r_putI d260_25 f260_308 o_t0.2.1) (rfl)))))
theorem b260_28 {t0 : Nat} {x1 : Int32} (o_t0 : ok11 S R t0) : hs_R scr (d + 1) 260 28 [some (.ref t0), some (.int x1), none] [] (S, I, L, R) = (if (I t0 12) = 0 then (if (I t0 14) = 0 then hs_R scr (d + 1) 260 50 [some (.ref t0), some (.int x1), none] [] (S, I, L, R) else ((hs_C scr d 261 [.ref t0, .int 0] (S, I, L, R)).bind fun o => hs_R scr (d + 1) 260 47 [some (.ref t0), some (.int x1), none] (o.1.toList ++ []) o.2)) else hs_R scr (d + 1) 260 50 [some (.ref t0), some (.int x1), none] [] (S, I, L, R)) := Eq.trans (r_al_n d260_28 rfl) (Eq.trans (r_getI d260_29 f260_204 o_t0.2.1) (Eq.trans (r_zne d260_32 rfl) (q_ite (Eq.trans (r_al_n d260_35 rfl) (Eq.trans (r_getI d260_36 f260_115 o_t0.2.1) (Eq.trans (r_zeq d260_39 rfl) (q_ite (rfl) (Eq.trans (r_al_n d260_42 rfl) (Eq.trans (r_ic d260_43 kI_0) (r_cvE (as := [.int 0]) (r := []) d260_44 c260_314 ow261 o_t0.2.1 np261.symm rfl (hs_fitE mL261 (Nat.le_of_ble_eq_true rfl))))))))) (rfl))))
theorem b260_47 {t0 : Nat} {x1 : Int32}  : hs_R scr d 260 47 [some (.ref t0), some (.int x1), none] [] (S, I, L, R) = hs_R scr d 260 28 [some (.ref t0), some (.int x1), none] [] (S, I, L, R) := Eq.trans (r_goto d260_47 rfl) (rfl)
theorem b260_50 {t0 : Nat} {x1 : Int32} (o_t0 : ok11 S R t0) : hs_R scr (d + 1) 260 50 [some (.ref t0), some (.int x1), none] [] (S, I, L, R) = ((hs_C scr d 258 [.ref t0] (S, I, L, R)).bind fun o => hs_R scr (d + 1) 260 54 [some (.ref t0), some (.int x1), none] (o.1.toList ++ []) o.2) := Eq.trans (r_al_n d260_50 rfl) (r_cvE (as := []) (r := []) d260_51 c260_299 ow258 o_t0.2.1 np258.symm rfl (hs_fitE mL258 (Nat.le_of_ble_eq_true rfl)))
theorem b260_54 {t0 : Nat} {x1 s0 : Int32} (o_t0 : ok11 S R t0) : hs_R scr d 260 54 [some (.ref t0), some (.int x1), none] [.int s0] (S, I, L, R) = (if s0 = 0 then some (some (.int (-1)), (S, I, L, R)) else hs_R scr d 260 81 [some (.ref t0), some (.int x1), some (.int 0)] [] (S, (hs_u (hs_u I (t0 + 5) 127 1) (t0 + 5) 128 ((hs_u I (t0 + 5) 127 1) t0 26)), L, R)) := Eq.trans (r_zne d260_54 rfl) (q_ite (Eq.trans (r_ic d260_57 kI_m1) (r_ri d260_58 rt260)) (Eq.trans (r_al_n d260_59 rfl) (Eq.trans (r_getRe d260_60 f260_35 o_t0.2.1 (o_t0.2.2.2.2.2.2.2.2.2.2.1) (Nat.le_trans o_t0.1 (Nat.le_add_right _ _))) (Eq.trans (r_bp d260_63 kB_127) (Eq.trans (r_ic d260_65 kI_1) (Eq.trans ((r_iastC d260_66 (o_t0.2.2.2.2.2.2.2.2.2.2.2.1) ib_127_1995 tn_127)) (Eq.trans (r_al_n d260_67 rfl) (Eq.trans (r_getRe d260_68 f260_35 o_t0.2.1 (o_t0.2.2.2.2.2.2.2.2.2.2.1) (Nat.le_trans o_t0.1 (Nat.le_add_right _ _))) (Eq.trans (r_sp d260_71 kS_128) (Eq.trans (r_al_n d260_74 rfl) (Eq.trans (r_getI d260_75 f260_308 o_t0.2.1) (Eq.trans ((r_iastC d260_78 (o_t0.2.2.2.2.2.2.2.2.2.2.2.1) ib_128_1995 tn_128)) (Eq.trans (r_ic d260_79 kI_0) (Eq.trans (r_is_n (loc' := [some (.ref t0), some (.int x1), some (.int 0)]) d260_80 rfl) (rfl)))))))))))))))
theorem b260_81 {t0 : Nat} {x1 x2 : Int32} (o_t0 : ok11 S R t0) : hs_R scr d 260 81 [some (.ref t0), some (.int x1), some (.int x2)] [] (S, I, L, R) = (if ((9 : Int32) * (I t0 26)) ≤ x2 then some (some (.int (I t0 26)), (S, I, L, R)) else (if hs_ib ((1725 : Int32) + x2) 1995 = true then (if hs_ib ((129 : Int32) + x2) 1995 = true then hs_R scr d 260 81 [some (.ref t0), some (.int x1), some (.int (x2 + 1))] [] (S, (hs_u I (t0 + 5) (Int32.toNatClampNeg ((129 : Int32) + x2)) (I (t0 + 5) (Int32.toNatClampNeg ((1725 : Int32) + x2)))), L, R) else none) else none)) := Eq.trans (r_il_n d260_81 rfl) (Eq.trans (r_bp d260_82 kB_9) (Eq.trans (r_al_n d260_84 rfl) (Eq.trans (r_getI d260_85 f260_308 o_t0.2.1) (Eq.trans (r_imul d260_88) (Eq.trans (r_cge d260_89 rfl) (q_ite (Eq.trans (r_al_n d260_118 rfl) (Eq.trans (r_getI d260_119 f260_308 o_t0.2.1) (r_ri d260_122 rt260))) (Eq.trans (r_al_n d260_92 rfl) (Eq.trans (r_getRe d260_93 f260_35 o_t0.2.1 (o_t0.2.2.2.2.2.2.2.2.2.2.1) (Nat.le_trans o_t0.1 (Nat.le_add_right _ _))) (Eq.trans (r_sp d260_96 kS_129) (Eq.trans (r_il_n d260_99 rfl) (Eq.trans (r_iadd d260_100) (Eq.trans (r_al_n d260_101 rfl) (Eq.trans (r_getRe d260_102 f260_35 o_t0.2.1 (o_t0.2.2.2.2.2.2.2.2.2.2.1) (Nat.le_trans o_t0.1 (Nat.le_add_right _ _))) (Eq.trans (r_sp d260_105 kS_1725) (Eq.trans (r_il_n d260_108 rfl) (Eq.trans (r_iadd d260_109) (Eq.trans (r_iald d260_110 (o_t0.2.2.2.2.2.2.2.2.2.2.2.1)) (q_ite (Eq.trans (r_iast d260_111 (o_t0.2.2.2.2.2.2.2.2.2.2.2.1)) (q_ite (Eq.trans (r_inc (loc' := [some (.ref t0), some (.int x1), some (.int (x2 + 1))]) d260_112 kI_1 rfl rfl) (Eq.trans (r_goto d260_115 rfl) (rfl))) rfl)) rfl))))))))))))))))))
theorem e261 {t0 : Nat} {x1 : Int32} : hs_C scr d 261 [.ref t0, .int x1] h = hs_R scr d 261 0 [some (.ref t0), some (.int x1), none, none, none] [] h := by rw [hs_C, mL261]; rfl
theorem b261_0 {t0 : Nat} {x1 : Int32} (o_t0 : ok11 S R t0) : hs_R scr (d + 1) 261 0 [some (.ref t0), some (.int x1), none, none, none] [] (S, I, L, R) = ((hs_C scr d 240 [.ref t0] (S, I, L, R)).bind fun o => hs_R scr (d + 1) 261 4 [some (.ref t0), some (.int x1), none, none, none] (o.1.toList ++ []) o.2) := Eq.trans (r_al_n d261_0 rfl) (r_cvE (as := []) (r := []) d261_1 c261_152 ow240 o_t0.2.1 np240.symm rfl (hs_fitE mL240 (Nat.le_of_ble_eq_true rfl)))
theorem b261_4 {t0 : Nat} {x1 s0 : Int32}  : hs_R scr d 261 4 [some (.ref t0), some (.int x1), none, none, none] [.int s0] (S, I, L, R) = (if s0 = 8 then hs_R scr d 261 17 [some (.ref t0), some (.int x1), some (.int s0), none, none] [] (S, I, L, R) else (if s0 = 9 then hs_R scr d 261 17 [some (.ref t0), some (.int x1), some (.int s0), none, none] [] (S, I, L, R) else hs_R scr d 261 22 [some (.ref t0), some (.int x1), some (.int s0), none, none] [.int 0] (S, I, L, R))) := Eq.trans (r_is_n (loc' := [some (.ref t0), some (.int x1), some (.int s0), none, none]) d261_4 rfl) (Eq.trans (r_il_n d261_5 rfl) (Eq.trans (r_bp d261_6 kB_8) (Eq.trans (r_ceq d261_8 rfl) (q_ite (rfl) (Eq.trans (r_il_n d261_11 rfl) (Eq.trans (r_bp d261_12 kB_9) (Eq.trans (r_cne d261_14 rfl) (q_ite (rfl) (Eq.trans (r_ic d261_21 kI_0) (rfl))))))))))
theorem b261_17 {t0 : Nat} {x1 x2 : Int32}  : hs_R scr d 261 17 [some (.ref t0), some (.int x1), some (.int x2), none, none] [] (S, I, L, R) = hs_R scr d 261 22 [some (.ref t0), some (.int x1), some (.int x2), none, none] [.int 1] (S, I, L, R) := Eq.trans (r_ic d261_17 kI_1) (Eq.trans (r_goto d261_18 rfl) (rfl))
theorem b261_22 {t0 : Nat} {x1 x2 s0 : Int32} (o_t0 : ok11 S R t0) : hs_R scr (d + 1) 261 22 [some (.ref t0), some (.int x1), some (.int x2), none, none] [.int s0] (S, I, L, R) = (if (0 : Int32) ≤ x2 then hs_R scr (d + 1) 261 31 [some (.ref t0), some (.int x1), some (.int x2), some (.int s0), none] [] (S, I, L, R) else ((hs_C scr d 222 [.ref t0] (S, I, L, R)).bind fun o => hs_R scr (d + 1) 261 31 [some (.ref t0), some (.int x1), some (.int x2), some (.int s0), none] (o.1.toList ++ []) o.2)) := Eq.trans (r_is_n (loc' := [some (.ref t0), some (.int x1), some (.int x2), some (.int s0), none]) d261_22 rfl) (Eq.trans (r_il_n d261_23 rfl) (Eq.trans (r_zge d261_24 rfl) (q_ite (rfl) (Eq.trans (r_al_n d261_27 rfl) (r_cvE (as := []) (r := []) d261_28 c261_217 ow222 o_t0.2.1 np222.symm rfl (hs_fitE mL222 (Nat.le_of_ble_eq_true rfl)))))))
theorem b261_31 {t0 : Nat} {x1 x2 x3 : Int32} (o_t0 : ok11 S R t0) : hs_R scr (d + 1) 261 31 [some (.ref t0), some (.int x1), some (.int x2), some (.int x3), none] [] (S, I, L, R) = (if (I t0 12) = 0 then (if (I t0 26) = 30 then ((hs_C scr d 220 [.ref t0, .int 6, .int (I t0 15)] (S, I, L, R)).bind fun o => hs_R scr (d + 1) 261 57 [some (.ref t0), some (.int x1), some (.int x2), some (.int x3), none] (o.1.toList ++ []) o.2) else hs_R scr (d + 1) 261 57 [some (.ref t0), some (.int x1), some (.int x2), some (.int x3), none] [] (S, I, L, R)) else hs_R scr (d + 1) 261 57 [some (.ref t0), some (.int x1), some (.int x2), some (.int x3), none] [] (S, I, L, R)) := Eq.trans (r_al_n d261_31 rfl) (Eq.trans (r_getI d261_32 f261_204 o_t0.2.1) (Eq.trans (r_zne d261_35 rfl) (q_ite (Eq.trans (r_al_n d261_38 rfl) (Eq.trans (r_getI d261_39 f261_308 o_t0.2.1) (Eq.trans (r_bp d261_42 kB_30) (Eq.trans (r_cne d261_44 rfl) (q_ite (Eq.trans (r_al_n d261_47 rfl) (Eq.trans (r_bp d261_48 kB_6) (Eq.trans (r_al_n d261_50 rfl) (Eq.trans (r_getI d261_51 f261_109 o_t0.2.1) (r_cvE (as := [.int 6, .int (I t0 15)]) (r := []) d261_54 c261_210 ow220 o_t0.2.1 np220.symm rfl (hs_fitE mL220 (Nat.le_of_ble_eq_true rfl))))))) (rfl)))))) (rfl))))
theorem b261_57 {t0 : Nat} {x1 x2 x3 : Int32} (o_t0 : ok11 S R t0) : hs_R scr (d + 1) 261 57 [some (.ref t0), some (.int x1), some (.int x2), some (.int x3), none] [] (S, I, L, R) = (if (I t0 12) = 0 then (if x3 = 0 then hs_R scr (d + 1) 261 83 [some (.ref t0), some (.int x1), some (.int x2), some (.int x3), none] [] (S, I, L, R) else (if x1 = 3 then ((hs_C scr d 220 [.ref t0, .int 7, .int (I t0 15)] (S, I, L, R)).bind fun o => hs_R scr (d + 1) 261 83 [some (.ref t0), some (.int x1), some (.int x2), some (.int x3), none] (o.1.toList ++ []) o.2) else hs_R scr (d + 1) 261 83 [some (.ref t0), some (.int x1), some (.int x2), some (.int x3), none] [] (S, I, L, R))) else hs_R scr (d + 1) 261 83 [some (.ref t0), some (.int x1), some (.int x2), some (.int x3), none] [] (S, I, L, R)) := Eq.trans (r_al_n d261_57 rfl) (Eq.trans (r_getI d261_58 f261_204 o_t0.2.1) (Eq.trans (r_zne d261_61 rfl) (q_ite (Eq.trans (r_il_n d261_64 rfl) (Eq.trans (r_zeq d261_65 rfl) (q_ite (rfl) (Eq.trans (r_il_n d261_68 rfl) (Eq.trans (r_ic d261_69 kI_3) (Eq.trans (r_cne d261_70 rfl) (q_ite (Eq.trans (r_al_n d261_73 rfl) (Eq.trans (r_bp d261_74 kB_7) (Eq.trans (r_al_n d261_76 rfl) (Eq.trans (r_getI d261_77 f261_109 o_t0.2.1) (r_cvE (as := [.int 7, .int (I t0 15)]) (r := []) d261_80 c261_210 ow220 o_t0.2.1 np220.symm rfl (hs_fitE mL220 (Nat.le_of_ble_eq_true rfl))))))) (rfl)))))))) (rfl))))
theorem b261_83 {t0 : Nat} {x1 x2 x3 : Int32} (o_t0 : ok11 S R t0) : hs_R scr (d + 1) 261 83 [some (.ref t0), some (.int x1), some (.int x2), some (.int x3), none] [] (S, I, L, R) = (if (I t0 12) ≤ 0 then ((hs_C scr d 209 [.ref t0] (S, (hs_u I t0 26 ((I t0 26) + 1)), L, R)).bind fun o => hs_R scr (d + 1) 261 118 [some (.ref t0), some (.int x1), some (.int x2), some (.int x3), some (.int ((1725 : Int32) + ((9 : Int32) * (I t0 26))))] (o.1.toList ++ []) o.2) else some (none, (S, I, L, R))) := Eq.trans (r_al_n d261_83 rfl) (Eq.trans (r_getI d261_84 f261_204 o_t0.2.1) (Eq.trans (r_zle d261_87 rfl) (q_ite (Eq.trans (r_sp d261_91 kS_1725) (Eq.trans (r_bp d261_94 kB_9) (Eq.trans (r_al_n d261_96 rfl) (Eq.trans (r_getI d261_97 f261_308 o_t0.2.1) (Eq.trans (r_imul d261_100) (Eq.trans (r_iadd d261_101) (Eq.trans (r_is (loc' := [some (.ref t0), some (.int x1), some (.int x2), some (.int x3), some (.int ((1725 : Int32) + ((9 : Int32) * (I t0 26))))]) d261_102 rfl) (Eq.trans (r_al_n d261_104 rfl) (Eq.trans (r_dup d261_105 rfl) (Eq.trans (r_getI d261_106 f261_308 o_t0.2.1) (Eq.trans (r_ic d261_109 kI_1) (Eq.trans (r_iadd d261_110) (Eq.trans (r_putI d261_111 f261_308 o_t0.2.1) (Eq.trans (r_al_n d261_114 rfl) (r_cvE (as := []) (r := []) d261_115 c261_214 ow209 o_t0.2.1 np209.symm rfl (hs_fitE mL209 (Nat.le_of_ble_eq_true rfl))))))))))))))))) (r_rv d261_90 rt261))))
theorem b261_118 {t0 : Nat} {x1 x2 x3 x4 : Int32} (o_t0 : ok11 S R t0) : hs_R scr (d + 1) 261 118 [some (.ref t0), some (.int x1), some (.int x2), some (.int x3), some (.int x4)] [] (S, I, L, R) = (if hs_ib x4 1995 = true then ((hs_C scr d 262 [.ref t0, .int x4] (S, (hs_u I (t0 + 5) (Int32.toNatClampNeg x4) x2), L, R)).bind fun o => hs_R scr (d + 1) 261 132 [some (.ref t0), some (.int x1), some (.int x2), some (.int x3), some (.int x4)] (o.1.toList ++ []) o.2) else none) := Eq.trans (r_al_n d261_118 rfl) (Eq.trans (r_getRe d261_119 f261_35 o_t0.2.1 (o_t0.2.2.2.2.2.2.2.2.2.2.1) (Nat.le_trans o_t0.1 (Nat.le_add_right _ _))) (Eq.trans (r_il d261_122 rfl) (Eq.trans (r_il_n d261_124 rfl) (Eq.trans (r_iast d261_125 (o_t0.2.2.2.2.2.2.2.2.2.2.2.1)) (q_ite (Eq.trans (r_al_n d261_126 rfl) (Eq.trans (r_il d261_127 rfl) (r_cvE (as := [.int x4]) (r := []) d261_129 c261_311 ow262 o_t0.2.1 np262.symm rfl (hs_fitE mL262 (Nat.le_of_ble_eq_true rfl))))) rfl)))))
theorem b261_132 {t0 : Nat} {x1 x2 x3 x4 : Int32} (o_t0 : ok11 S R t0) : hs_R scr (d + 1) 261 132 [some (.ref t0), some (.int x1), some (.int x2), some (.int x3), some (.int x4)] [] (S, I, L, R) = ((hs_C scr d 257 [.ref t0, .int 59] (S, I, L, R)).bind fun o => hs_R scr (d + 1) 261 139 [some (.ref t0), some (.int x1), some (.int x2), some (.int x3), some (.int x4)] (o.1.toList ++ [.ref t0]) o.2) := Eq.trans (r_al_n d261_132 rfl) (Eq.trans (r_al_n d261_133 rfl) (Eq.trans (r_bp d261_134 kB_59) (r_cvE (as := [.int 59]) (r := [.ref t0]) d261_136 c261_296 ow257 o_t0.2.1 np257.symm rfl (hs_fitE mL257 (Nat.le_of_ble_eq_true rfl)))))
theorem b261_139 {t0 u0 : Nat} {x1 x2 x3 x4 s1 : Int32} (o_u0 : ok11 S R u0) : hs_R scr (d + 1) 261 139 [some (.ref t0), some (.int x1), some (.int x2), some (.int x3), some (.int x4)] [.int s1, .ref u0] (S, I, L, R) = ((hs_C scr d 248 [.ref u0, .int s1] (S, I, L, R)).bind fun o => hs_R scr (d + 1) 261 142 [some (.ref t0), some (.int x1), some (.int x2), some (.int x3), some (.int x4)] (o.1.toList ++ []) o.2) := r_cvE (as := [.int s1]) (r := []) d261_139 c261_220 ow248 o_u0.2.1 np248.symm rfl (hs_fitE mL248 (Nat.le_of_ble_eq_true rfl))
theorem b261_142 {t0 : Nat} {x1 x2 x3 x4 : Int32} (o_t0 : ok11 S R t0) : hs_R scr (d + 1) 261 142 [some (.ref t0), some (.int x1), some (.int x2), some (.int x3), some (.int x4)] [] (S, I, L, R) = (if x3 = 0 then hs_R scr (d + 1) 261 170 [some (.ref t0), some (.int x1), some (.int x2), some (.int x3), some (.int x4)] [] (S, I, L, R) else (if (I t0 12) = 0 then ((hs_C scr d 243 [.ref t0] (S, I, L, R)).bind fun o => hs_R scr (d + 1) 261 157 [some (.ref t0), some (.int x1), some (.int x2), some (.int x3), some (.int x4)] (o.1.toList ++ []) o.2) else hs_R scr (d + 1) 261 170 [some (.ref t0), some (.int x1), some (.int x2), some (.int x3), some (.int x4)] [] (S, I, L, R))) := Eq.trans (r_il_n d261_142 rfl) (Eq.trans (r_zeq d261_143 rfl) (q_ite (rfl) (Eq.trans (r_al_n d261_146 rfl) (Eq.trans (r_getI d261_147 f261_204 o_t0.2.1) (Eq.trans (r_zne d261_150 rfl) (q_ite (Eq.trans (r_al_n d261_153 rfl) (r_cvE (as := []) (r := []) d261_154 c261_198 ow243 o_t0.2.1 np243.symm rfl (hs_fitE mL243 (Nat.le_of_ble_eq_true rfl)))) (rfl)))))))
theorem b261_157 {t0 : Nat} {x1 x2 x3 x4 s0 : Int32} (o_t0 : ok11 S R t0) : hs_R scr (d + 1) 261 157 [some (.ref t0), some (.int x1), some (.int x2), some (.int x3), some (.int x4)] [.int s0] (S, I, L, R) = (if s0 = 0 then ((hs_C scr d 261 [.ref t0, .int (x1 + 1)] (S, I, L, R)).bind fun o => hs_R scr (d + 1) 261 167 [some (.ref t0), some (.int x1), some (.int x2), some (.int x3), some (.int x4)] (o.1.toList ++ []) o.2) else hs_R scr (d + 1) 261 170 [some (.ref t0), some (.int x1), some (.int x2), some (.int x3), some (.int x4)] [] (S, I, L, R)) := Eq.trans (r_zne d261_157 rfl) (q_ite (Eq.trans (r_al_n d261_160 rfl) (Eq.trans (r_il_n d261_161 rfl) (Eq.trans (r_ic d261_162 kI_1) (Eq.trans (r_iadd d261_163) (r_cvE (as := [.int (x1 + 1)]) (r := []) d261_164 c261_314 ow261 o_t0.2.1 np261.symm rfl (hs_fitE mL261 (Nat.le_of_ble_eq_true rfl))))))) (rfl))
theorem b261_167 {t0 : Nat} {x1 x2 x3 x4 : Int32}  : hs_R scr d 261 167 [some (.ref t0), some (.int x1), some (.int x2), some (.int x3), some (.int x4)] [] (S, I, L, R) = hs_R scr d 261 142 [some (.ref t0), some (.int x1), some (.int x2), some (.int x3), some (.int x4)] [] (S, I, L, R) := Eq.trans (r_goto d261_167 rfl) (rfl)
theorem b261_170 {t0 : Nat} {x1 x2 x3 x4 : Int32} (o_t0 : ok11 S R t0) : hs_R scr (d + 1) 261 170 [some (.ref t0), some (.int x1), some (.int x2), some (.int x3), some (.int x4)] [] (S, I, L, R) = (if x3 = 0 then hs_R scr (d + 1) 261 192 [some (.ref t0), some (.int x1), some (.int x2), some (.int x3), some (.int x4)] [] (S, I, L, R) else ((hs_C scr d 243 [.ref t0] (S, I, L, R)).bind fun o => hs_R scr (d + 1) 261 179 [some (.ref t0), some (.int x1), some (.int x2), some (.int x3), some (.int x4)] (o.1.toList ++ [.ref t0]) o.2)) := Eq.trans (r_il_n d261_170 rfl) (Eq.trans (r_zeq d261_171 rfl) (q_ite (rfl) (Eq.trans (r_al_n d261_174 rfl) (Eq.trans (r_al_n d261_175 rfl) (r_cvE (as := []) (r := [.ref t0]) d261_176 c261_198 ow243 o_t0.2.1 np243.symm rfl (hs_fitE mL243 (Nat.le_of_ble_eq_true rfl)))))))
theorem b261_179 {t0 u0 : Nat} {x1 x2 x3 x4 s1 : Int32} (o_u0 : ok11 S R u0) : hs_R scr (d + 1) 261 179 [some (.ref t0), some (.int x1), some (.int x2), some (.int x3), some (.int x4)] [.int s1, .ref u0] (S, I, L, R) = ((hs_C scr d 248 [.ref u0, .int s1] (S, I, L, R)).bind fun o => hs_R scr (d + 1) 261 182 [some (.ref t0), some (.int x1), some (.int x2), some (.int x3), some (.int x4)] (o.1.toList ++ []) o.2) := r_cvE (as := [.int s1]) (r := []) d261_179 c261_220 ow248 o_u0.2.1 np248.symm rfl (hs_fitE mL248 (Nat.le_of_ble_eq_true rfl))
theorem b261_182 {t0 : Nat} {x1 x2 x3 x4 : Int32} (o_t0 : ok11 S R t0) : hs_R scr (d + 1) 261 182 [some (.ref t0), some (.int x1), some (.int x2), some (.int x3), some (.int x4)] [] (S, I, L, R) = ((hs_C scr d 257 [.ref t0, .int 59] (S, I, L, R)).bind fun o => hs_R scr (d + 1) 261 189 [some (.ref t0), some (.int x1), some (.int x2), some (.int x3), some (.int x4)] (o.1.toList ++ [.ref t0]) o.2) := Eq.trans (r_al_n d261_182 rfl) (Eq.trans (r_al_n d261_183 rfl) (Eq.trans (r_bp d261_184 kB_59) (r_cvE (as := [.int 59]) (r := [.ref t0]) d261_186 c261_296 ow257 o_t0.2.1 np257.symm rfl (hs_fitE mL257 (Nat.le_of_ble_eq_true rfl)))))
theorem b261_189 {t0 u0 : Nat} {x1 x2 x3 x4 s1 : Int32} (o_u0 : ok11 S R u0) : hs_R scr (d + 1) 261 189 [some (.ref t0), some (.int x1), some (.int x2), some (.int x3), some (.int x4)] [.int s1, .ref u0] (S, I, L, R) = ((hs_C scr d 248 [.ref u0, .int s1] (S, I, L, R)).bind fun o => hs_R scr (d + 1) 261 192 [some (.ref t0), some (.int x1), some (.int x2), some (.int x3), some (.int x4)] (o.1.toList ++ []) o.2) := r_cvE (as := [.int s1]) (r := []) d261_189 c261_220 ow248 o_u0.2.1 np248.symm rfl (hs_fitE mL248 (Nat.le_of_ble_eq_true rfl))
theorem b261_192 {t0 : Nat} {x1 x2 x3 x4 : Int32} (o_t0 : ok11 S R t0) : hs_R scr d 261 192 [some (.ref t0), some (.int x1), some (.int x2), some (.int x3), some (.int x4)] [] (S, I, L, R) = (if hs_ib (x4 + 8) 1995 = true then some (none, (S, (hs_u I (t0 + 5) (Int32.toNatClampNeg (x4 + 8)) (I t0 26)), L, R)) else none) := Eq.trans (r_al_n d261_192 rfl) (Eq.trans (r_getRe d261_193 f261_35 o_t0.2.1 (o_t0.2.2.2.2.2.2.2.2.2.2.1) (Nat.le_trans o_t0.1 (Nat.le_add_right _ _))) (Eq.trans (r_il d261_196 rfl) (Eq.trans (r_bp d261_198 kB_8) (Eq.trans (r_iadd d261_200) (Eq.trans (r_al_n d261_201 rfl) (Eq.trans (r_getI d261_202 f261_308 o_t0.2.1) (Eq.trans (r_iast d261_205 (o_t0.2.2.2.2.2.2.2.2.2.2.2.1)) (q_ite (r_rv d261_206 rt261) rfl))))))))
theorem e262 {t0 : Nat} {x1 : Int32} : hs_C scr d 262 [.ref t0, .int x1] h = hs_R scr d 262 0 [some (.ref t0), some (.int x1), none] [] h := by rw [hs_C, mL262]; rfl
theorem b262_0 {t0 : Nat} {x1 : Int32} (o_t0 : ok11 S R t0) : hs_R scr (d + 1) 262 0 [some (.ref t0), some (.int x1), none] [] (S, I, L, R) = (if hs_ib x1 1995 = true then (if (I (t0 + 5) (Int32.toNatClampNeg x1)) = 0 then ((hs_C scr d 221 [.ref t0, .int 1, .int 20] (S, I, L, R)).bind fun o => hs_R scr (d + 1) 262 25 [some (.ref t0), some (.int x1), some (.int (I (t0 + 5) (Int32.toNatClampNeg x1)))] (o.1.toList ++ [.int (x1 + 1), .ref (t0 + 5)]) o.2) else (if (I (t0 + 5) (Int32.toNatClampNeg x1)) = 9 then ((hs_C scr d 221 [.ref t0, .int 1, .int 99] (S, I, L, R)).bind fun o => hs_R scr (d + 1) 262 49 [some (.ref t0), some (.int x1), some (.int (I (t0 + 5) (Int32.toNatClampNeg x1)))] (o.1.toList ++ [.int (x1 + 1), .ref (t0 + 5)]) o.2) else (if (I (t0 + 5) (Int32.toNatClampNeg x1)) = 8 then ((hs_C scr d 263 [.ref t0, .int x1] (S, I, L, R)).bind fun o => hs_R scr (d + 1) 262 64 [some (.ref t0), some (.int x1), some (.int (I (t0 + 5) (Int32.toNatClampNeg x1)))] (o.1.toList ++ []) o.2) else (if (I (t0 + 5) (Int32.toNatClampNeg x1)) < 3 then hs_R scr (d + 1) 262 106 [some (.ref t0), some (.int x1), some (.int (I (t0 + 5) (Int32.toNatClampNeg x1)))] [] (S, I, L, R) else (if (5 : Int32) < (I (t0 + 5) (Int32.toNatClampNeg x1)) then hs_R scr (d + 1) 262 106 [some (.ref t0), some (.int x1), some (.int (I (t0 + 5) (Int32.toNatClampNeg x1)))] [] (S, I, L, R) else ((hs_C scr d 255 [.ref t0, .int 0, .int 0] (S, I, L, R)).bind fun o => hs_R scr (d + 1) 262 90 [some (.ref t0), some (.int x1), some (.int (I (t0 + 5) (Int32.toNatClampNeg x1)))] (o.1.toList ++ [.int (x1 + 1), .ref (t0 + 5)]) o.2)))))) else none) := Eq.trans (r_al_n d262_0 rfl) (Eq.trans (r_getRe d262_1 f262_35 o_t0.2.1 (o_t0.2.2.2.2.2.2.2.2.2.2.1) (Nat.le_trans o_t0.1 (Nat.le_add_right _ _))) (Eq.trans (r_il_n d262_4 rfl) (Eq.trans (r_iald d262_5 (o_t0.2.2.2.2.2.2.2.2.2.2.2.1)) (q_ite (Eq.trans (r_is_n (loc' := [some (.ref t0), some (.int x1), some (.int (I (t0 + 5) (Int32.toNatClampNeg x1)))]) d262_6 rfl) (Eq.trans (r_il_n d262_7 rfl) (Eq.trans (r_zne d262_8 rfl) (q_ite (Eq.trans (r_al_n d262_11 rfl) (Eq.trans (r_getRe d262_12 f262_35 o_t0.2.1 (o_t0.2.2.2.2.2.2.2.2.2.2.1) (Nat.le_trans o_t0.1 (Nat.le_add_right _ _))) (Eq.trans (r_il_n d262_15 rfl) (Eq.trans (r_ic d262_16 kI_1) (Eq.trans (r_iadd d262_17) (Eq.trans (r_al_n d262_18 rfl) (Eq.trans (r_ic d262_19 kI_1) (Eq.trans (r_bp d262_20 kB_20) (r_cvE (as := [.int 1, .int 20]) (r := [.int (x1 + 1), .ref (t0 + 5)]) d262_22 c262_224 ow221 o_t0.2.1 np221.symm rfl (hs_fitE mL221 (Nat.le_of_ble_eq_true rfl))))))))))) (Eq.trans (r_il_n d262_29 rfl) (Eq.trans (r_bp d262_30 kB_9) (Eq.trans (r_cne d262_32 rfl) (q_ite (Eq.trans (r_al_n d262_35 rfl) (Eq.trans (r_getRe d262_36 f262_35 o_t0.2.1 (o_t0.2.2.2.2.2.2.2.2.2.2.1) (Nat.le_trans o_t0.1 (Nat.le_add_right _ _))) (Eq.trans (r_il_n d262_39 rfl) (Eq.trans (r_ic d262_40 kI_1) (Eq.trans (r_iadd d262_41) (Eq.trans (r_al_n d262_42 rfl) (Eq.trans (r_ic d262_43 kI_1) (Eq.trans (r_bp d262_44 kB_99) (r_cvE (as := [.int 1, .int 99]) (r := [.int (x1 + 1), .ref (t0 + 5)]) d262_46 c262_224 ow221 o_t0.2.1 np221.symm rfl (hs_fitE mL221 (Nat.le_of_ble_eq_true rfl))))))))))) (Eq.trans (r_il_n d262_53 rfl) (Eq.trans (r_bp d262_54 kB_8) (Eq.trans (r_cne d262_56 rfl) (q_ite (Eq.trans (r_al_n d262_59 rfl) (Eq.trans (r_il_n d262_60 rfl) (r_cvE (as := [.int x1]) (r := []) d262_61 c262_305 ow263 o_t0.2.1 np263.symm rfl (hs_fitE mL263 (Nat.le_of_ble_eq_true rfl))))) (Eq.trans (r_il_n d262_67 rfl) (Eq.trans (r_ic d262_68 kI_3) (Eq.trans (r_clt d262_69 rfl) (q_ite (rfl) (Eq.trans (r_il_n d262_72 rfl) (Eq.trans (r_ic d262_73 kI_5) (Eq.trans (r_cgt d262_74 rfl) (q_ite (rfl) (Eq.trans (r_al_n d262_77 rfl) (Eq.trans (r_getRe d262_78 f262_35 o_t0.2.1 (o_t0.2.2.2.2.2.2.2.2.2.2.1) (Nat.le_trans o_t0.1 (Nat.le_add_right _ _))) (Eq.trans (r_il_n d262_81 rfl) (Eq.trans (r_ic d262_82 kI_1) (Eq.trans (r_iadd d262_83) (Eq.trans (r_al_n d262_84 rfl) (Eq.trans (r_ic d262_85 kI_0) (Eq.trans (r_ic d262_86 kI_0) (r_cvE (as := [.int 0, .int 0]) (r := [.int (x1 + 1), .ref (t0 + 5)]) d262_87 c262_265 ow255 o_t0.2.1 np255.symm rfl (hs_fitE mL255 (Nat.le_of_ble_eq_true rfl))))))))))))))))))))))))))))))) rfl))))
theorem b262_25 {t0 u0 n_u0 : Nat} {x1 x2 s1 s2 : Int32} (a_u0 : S[u0]? = some (.inr (.int, n_u0))) : hs_R scr d 262 25 [some (.ref t0), some (.int x1), some (.int x2)] [.int s2, .int s1, .ref u0] (S, I, L, R) = (if hs_ib s1 n_u0 = true then hs_R scr d 262 106 [some (.ref t0), some (.int x1), some (.int x2)] [] (S, (hs_u I u0 (Int32.toNatClampNeg s1) s2), L, R) else none) := Eq.trans (r_iast d262_25 a_u0) (q_ite (Eq.trans (r_goto d262_26 rfl) (rfl)) rfl)
theorem b262_49 {t0 u0 n_u0 : Nat} {x1 x2 s1 s2 : Int32} (a_u0 : S[u0]? = some (.inr (.int, n_u0))) : hs_R scr d 262 49 [some (.ref t0), some (.int x1), some (.int x2)] [.int s2, .int s1, .ref u0] (S, I, L, R) = (if hs_ib s1 n_u0 = true then hs_R scr d 262 106 [some (.ref t0), some (.int x1), some (.int x2)] [] (S, (hs_u I u0 (Int32.toNatClampNeg s1) s2), L, R) else none) := Eq.trans (r_iast d262_49 a_u0) (q_ite (Eq.trans (r_goto d262_50 rfl) (rfl)) rfl)
theorem b262_64 {t0 : Nat} {x1 x2 : Int32}  : hs_R scr d 262 64 [some (.ref t0), some (.int x1), some (.int x2)] [] (S, I, L, R) = hs_R scr d 262 106 [some (.ref t0), some (.int x1), some (.int x2)] [] (S, I, L, R) := Eq.trans (r_goto d262_64 rfl) (rfl)
theorem b262_90 {t0 u0 n_u0 : Nat} {x1 x2 s1 s2 : Int32} (a_u0 : S[u0]? = some (.inr (.int, n_u0))) (o_t0 : ok11 S R t0) : hs_R scr (d + 1) 262 90 [some (.ref t0), some (.int x1), some (.int x2)] [.int s2, .int s1, .ref u0] (S, I, L, R) = (if hs_ib s1 n_u0 = true then ((hs_C scr d 221 [.ref t0, .int 0, .int 99] (S, (hs_u I u0 (Int32.toNatClampNeg s1) s2), L, R)).bind fun o => hs_R scr (d + 1) 262 105 [some (.ref t0), some (.int x1), some (.int x2)] (o.1.toList ++ [.int (x1 + 2), .ref (t0 + 5)]) o.2) else none) := Eq.trans (r_iast d262_90 a_u0) (q_ite (Eq.trans (r_al_n d262_91 rfl) (Eq.trans (r_getRe d262_92 f262_35 o_t0.2.1 (o_t0.2.2.2.2.2.2.2.2.2.2.1) (Nat.le_trans o_t0.1 (Nat.le_add_right _ _))) (Eq.trans (r_il_n d262_95 rfl) (Eq.trans (r_ic d262_96 kI_2) (Eq.trans (r_iadd d262_97) (Eq.trans (r_al_n d262_98 rfl) (Eq.trans (r_ic d262_99 kI_0) (Eq.trans (r_bp d262_100 kB_99) (r_cvE (as := [.int 0, .int 99]) (r := [.int (x1 + 2), .ref (t0 + 5)]) d262_102 c262_224 ow221 o_t0.2.1 np221.symm rfl (hs_fitE mL221 (Nat.le_of_ble_eq_true rfl))))))))))) rfl)
theorem b262_105 {t0 u0 n_u0 : Nat} {x1 x2 s1 s2 : Int32} (a_u0 : S[u0]? = some (.inr (.int, n_u0))) : hs_R scr d 262 105 [some (.ref t0), some (.int x1), some (.int x2)] [.int s2, .int s1, .ref u0] (S, I, L, R) = (if hs_ib s1 n_u0 = true then hs_R scr d 262 106 [some (.ref t0), some (.int x1), some (.int x2)] [] (S, (hs_u I u0 (Int32.toNatClampNeg s1) s2), L, R) else none) := Eq.trans (r_iast d262_105 a_u0) (q_ite (rfl) rfl)
theorem b262_106 {t0 : Nat} {x1 x2 : Int32}  : hs_R scr d 262 106 [some (.ref t0), some (.int x1), some (.int x2)] [] (S, I, L, R) = some (none, (S, I, L, R)) := r_rv d262_106 rt262
theorem e263 {t0 : Nat} {x1 : Int32} : hs_C scr d 263 [.ref t0, .int x1] h = hs_R scr d 263 0 [some (.ref t0), some (.int x1), none] [] h := by rw [hs_C, mL263]; rfl
theorem b263_0 {t0 : Nat} {x1 : Int32} (o_t0 : ok11 S R t0) : hs_R scr (d + 1) 263 0 [some (.ref t0), some (.int x1), none] [] (S, I, L, R) = ((hs_C scr d 241 [.ref t0] (S, I, L, R)).bind fun o => hs_R scr (d + 1) 263 4 [some (.ref t0), some (.int x1), none] (o.1.toList ++ []) o.2) := Eq.trans (r_al_n d263_0 rfl) (r_cvE (as := []) (r := []) d263_1 c263_195 ow241 o_t0.2.1 np241.symm rfl (hs_fitE mL241 (Nat.le_of_ble_eq_true rfl)))
theorem b263_4 {t0 : Nat} {x1 s0 : Int32}  : hs_R scr d 263 4 [some (.ref t0), some (.int x1), none] [.int s0] (S, I, L, R) = (if s0 < 0 then hs_R scr d 263 15 [some (.ref t0), some (.int x1), some (.int s0)] [.int 0, .ref t0] (S, I, L, R) else hs_R scr d 263 15 [some (.ref t0), some (.int x1), some (.int s0)] [.int 1, .ref t0] (S, I, L, R)) := Eq.trans (r_is_n (loc' := [some (.ref t0), some (.int x1), some (.int s0)]) d263_4 rfl) (Eq.trans (r_al_n d263_5 rfl) (Eq.trans (r_il_n d263_6 rfl) (Eq.trans (r_zlt d263_7 rfl) (q_ite (Eq.trans (r_ic d263_14 kI_0) (rfl)) (Eq.trans (r_ic d263_10 kI_1) (Eq.trans (r_goto d263_11 rfl) (rfl)))))))
theorem b263_15 {t0 u0 : Nat} {x1 x2 s1 : Int32} (o_u0 : ok11 S R u0) : hs_R scr (d + 1) 263 15 [some (.ref t0), some (.int x1), some (.int x2)] [.int s1, .ref u0] (S, I, L, R) = ((hs_C scr d 248 [.ref u0, .int s1] (S, I, L, R)).bind fun o => hs_R scr (d + 1) 263 18 [some (.ref t0), some (.int x1), some (.int x2)] (o.1.toList ++ []) o.2) := r_cvE (as := [.int s1]) (r := []) d263_15 c263_220 ow248 o_u0.2.1 np248.symm rfl (hs_fitE mL248 (Nat.le_of_ble_eq_true rfl))
theorem b263_18 {t0 : Nat} {x1 x2 : Int32} (o_t0 : ok11 S R t0) : hs_R scr d 263 18 [some (.ref t0), some (.int x1), some (.int x2)] [] (S, I, L, R) = (if hs_ib (x1 + 6) 1995 = true then (if (0 : Int32) < ((hs_u I (t0 + 5) (Int32.toNatClampNeg (x1 + 6)) x2) t0 12) then hs_R scr d 263 40 [some (.ref t0), some (.int x1), some (.int x2)] [] (S, (hs_u I (t0 + 5) (Int32.toNatClampNeg (x1 + 6)) x2), L, R) else (if x2 = 2 then hs_R scr d 263 40 [some (.ref t0), some (.int x1), some (.int x2)] [] (S, (hs_u I (t0 + 5) (Int32.toNatClampNeg (x1 + 6)) x2), L, R) else (if x2 = 0 then hs_R scr d 263 59 [some (.ref t0), some (.int x1), some (.int x2)] [.int 3, .int 0, .ref t0, .int (x1 + 1), .ref (t0 + 5)] (S, (hs_u I (t0 + 5) (Int32.toNatClampNeg (x1 + 6)) x2), L, R) else hs_R scr d 263 59 [some (.ref t0), some (.int x1), some (.int x2)] [.int 0, .int 0, .ref t0, .int (x1 + 1), .ref (t0 + 5)] (S, (hs_u I (t0 + 5) (Int32.toNatClampNeg (x1 + 6)) x2), L, R)))) else none) := Eq.trans (r_al_n d263_18 rfl) (Eq.trans (r_getRe d263_19 f263_35 o_t0.2.1 (o_t0.2.2.2.2.2.2.2.2.2.2.1) (Nat.le_trans o_t0.1 (Nat.le_add_right _ _))) (Eq.trans (r_il_n d263_22 rfl) (Eq.trans (r_bp d263_23 kB_6) (Eq.trans (r_iadd d263_25) (Eq.trans (r_il_n d263_26 rfl) (Eq.trans (r_iast d263_27 (o_t0.2.2.2.2.2.2.2.2.2.2.2.1)) (q_ite (Eq.trans (r_al_n d263_28 rfl) (Eq.trans (r_getI d263_29 f263_204 o_t0.2.1) (Eq.trans (r_zgt d263_32 rfl) (q_ite (rfl) (Eq.trans (r_il_n d263_35 rfl) (Eq.trans (r_ic d263_36 kI_2) (Eq.trans (r_cne d263_37 rfl) (q_ite (rfl) (Eq.trans (r_al_n d263_41 rfl) (Eq.trans (r_getRe d263_42 f263_35 o_t0.2.1 (o_t0.2.2.2.2.2.2.2.2.2.2.1) (Nat.le_trans o_t0.1 (Nat.le_add_right _ _))) (Eq.trans (r_il_n d263_45 rfl) (Eq.trans (r_ic d263_46 kI_1) (Eq.trans (r_iadd d263_47) (Eq.trans (r_al_n d263_48 rfl) (Eq.trans (r_ic d263_49 kI_0) (Eq.trans (r_il_n d263_50 rfl) (Eq.trans (r_zne d263_51 rfl) (q_ite (Eq.trans (r_ic d263_54 kI_3) (Eq.trans (r_goto d263_55 rfl) (rfl))) (Eq.trans (r_ic d263_58 kI_0) (rfl)))))))))))))))))))) rfl)))))))
theorem b263_40 {t0 : Nat} {x1 x2 : Int32}  : hs_R scr d 263 40 [some (.ref t0), some (.int x1), some (.int x2)] [] (S, I, L, R) = some (none, (S, I, L, R)) := r_rv d263_40 rt263
theorem b263_59 {t0 u0 u2 : Nat} {x1 x2 s1 s3 s4 : Int32} (o_u2 : ok11 S R u2) : hs_R scr (d + 1) 263 59 [some (.ref t0), some (.int x1), some (.int x2)] [.int s4, .int s3, .ref u2, .int s1, .ref u0] (S, I, L, R) = ((hs_C scr d 255 [.ref u2, .int s3, .int s4] (S, I, L, R)).bind fun o => hs_R scr (d + 1) 263 62 [some (.ref t0), some (.int x1), some (.int x2)] (o.1.toList ++ [.int s1, .ref u0]) o.2) := r_cvE (as := [.int s3, .int s4]) (r := [.int s1, .ref u0]) d263_59 c263_265 ow255 o_u2.2.1 np255.symm rfl (hs_fitE mL255 (Nat.le_of_ble_eq_true rfl))
theorem b263_62 {t0 u0 n_u0 : Nat} {x1 x2 s1 s2 : Int32} (a_u0 : S[u0]? = some (.inr (.int, n_u0))) (o_t0 : ok11 S R t0) : hs_R scr d 263 62 [some (.ref t0), some (.int x1), some (.int x2)] [.int s2, .int s1, .ref u0] (S, I, L, R) = (if hs_ib s1 n_u0 = true then (if (0 : Int32) < ((hs_u I u0 (Int32.toNatClampNeg s1) s2) t0 12) then hs_R scr d 263 74 [some (.ref t0), some (.int x1), some (.int x2)] [] (S, (hs_u I u0 (Int32.toNatClampNeg s1) s2), L, R) else (if x2 = 0 then hs_R scr d 263 74 [some (.ref t0), some (.int x1), some (.int x2)] [] (S, (hs_u I u0 (Int32.toNatClampNeg s1) s2), L, R) else (if ((hs_u I u0 (Int32.toNatClampNeg s1) s2) t0 14) = 3 then hs_R scr d 263 99 [some (.ref t0), some (.int x1), some (.int x2)] [.int ((hs_u I u0 (Int32.toNatClampNeg s1) s2) t0 17), .int (x1 + 7), .ref (t0 + 5)] (S, (hs_u I u0 (Int32.toNatClampNeg s1) s2), L, R) else hs_R scr d 263 99 [some (.ref t0), some (.int x1), some (.int x2)] [.int 0, .int (x1 + 7), .ref (t0 + 5)] (S, (hs_u I u0 (Int32.toNatClampNeg s1) s2), L, R)))) else none) := Eq.trans (r_iast d263_62 a_u0) (q_ite (Eq.trans (r_al_n d263_63 rfl) (Eq.trans (r_getI d263_64 f263_204 o_t0.2.1) (Eq.trans (r_zgt d263_67 rfl) (q_ite (rfl) (Eq.trans (r_il_n d263_70 rfl) (Eq.trans (r_zne d263_71 rfl) (q_ite (rfl) (Eq.trans (r_al_n d263_75 rfl) (Eq.trans (r_getRe d263_76 f263_35 o_t0.2.1 (o_t0.2.2.2.2.2.2.2.2.2.2.1) (Nat.le_trans o_t0.1 (Nat.le_add_right _ _))) (Eq.trans (r_il_n d263_79 rfl) (Eq.trans (r_bp d263_80 kB_7) (Eq.trans (r_iadd d263_82) (Eq.trans (r_al_n d263_83 rfl) (Eq.trans (r_getI d263_84 f263_115 o_t0.2.1) (Eq.trans (r_ic d263_87 kI_3) (Eq.trans (r_cne d263_88 rfl) (q_ite (Eq.trans (r_al_n d263_91 rfl) (Eq.trans (r_getI d263_92 f263_134 o_t0.2.1) (Eq.trans (r_goto d263_95 rfl) (rfl)))) (Eq.trans (r_ic d263_98 kI_0) (rfl))))))))))))))))))) rfl)
theorem b263_74 {t0 : Nat} {x1 x2 : Int32}  : hs_R scr d 263 74 [some (.ref t0), some (.int x1), some (.int x2)] [] (S, I, L, R) = some (none, (S, I, L, R)) := r_rv d263_74 rt263
theorem b263_99 {t0 u0 n_u0 : Nat} {x1 x2 s1 s2 : Int32} (a_u0 : S[u0]? = some (.inr (.int, n_u0))) (o_t0 : ok11 S R t0) : hs_R scr (d + 1) 263 99 [some (.ref t0), some (.int x1), some (.int x2)] [.int s2, .int s1, .ref u0] (S, I, L, R) = (if hs_ib s1 n_u0 = true then ((hs_C scr d 257 [.ref t0, .int 60] (S, (hs_u I u0 (Int32.toNatClampNeg s1) s2), L, R)).bind fun o => hs_R scr (d + 1) 263 107 [some (.ref t0), some (.int x1), some (.int x2)] (o.1.toList ++ [.ref t0]) o.2) else none) := Eq.trans (r_iast d263_99 a_u0) (q_ite (Eq.trans (r_al_n d263_100 rfl) (Eq.trans (r_al_n d263_101 rfl) (Eq.trans (r_bp d263_102 kB_60) (r_cvE (as := [.int 60]) (r := [.ref t0]) d263_104 c263_296 ow257 o_t0.2.1 np257.symm rfl (hs_fitE mL257 (Nat.le_of_ble_eq_true rfl)))))) rfl)
theorem b263_107 {t0 u0 : Nat} {x1 x2 s1 : Int32} (o_t0 : ok11 S R t0) : hs_R scr (d + 1) 263 107 [some (.ref t0), some (.int x1), some (.int x2)] [.int s1, .ref u0] (S, I, L, R) = (if s1 = 0 then ((hs_C scr d 257 [.ref t0, .int 62] (S, I, L, R)).bind fun o => hs_R scr (d + 1) 263 116 [some (.ref t0), some (.int x1), some (.int x2)] (o.1.toList ++ [.ref u0]) o.2) else hs_R scr (d + 1) 263 128 [some (.ref t0), some (.int x1), some (.int x2)] [.ref u0] (S, I, L, R)) := Eq.trans (r_zne d263_107 rfl) (q_ite (Eq.trans (r_al_n d263_110 rfl) (Eq.trans (r_bp d263_111 kB_62) (r_cvE (as := [.int 62]) (r := [.ref u0]) d263_113 c263_296 ow257 o_t0.2.1 np257.symm rfl (hs_fitE mL257 (Nat.le_of_ble_eq_true rfl))))) (rfl))
theorem b263_116 {t0 u0 : Nat} {x1 x2 s1 : Int32} (o_t0 : ok11 S R t0) : hs_R scr (d + 1) 263 116 [some (.ref t0), some (.int x1), some (.int x2)] [.int s1, .ref u0] (S, I, L, R) = (if s1 = 0 then ((hs_C scr d 257 [.ref t0, .int 61] (S, I, L, R)).bind fun o => hs_R scr (d + 1) 263 125 [some (.ref t0), some (.int x1), some (.int x2)] (o.1.toList ++ [.ref u0]) o.2) else hs_R scr (d + 1) 263 128 [some (.ref t0), some (.int x1), some (.int x2)] [.ref u0] (S, I, L, R)) := Eq.trans (r_zne d263_116 rfl) (q_ite (Eq.trans (r_al_n d263_119 rfl) (Eq.trans (r_bp d263_120 kB_61) (r_cvE (as := [.int 61]) (r := [.ref u0]) d263_122 c263_296 ow257 o_t0.2.1 np257.symm rfl (hs_fitE mL257 (Nat.le_of_ble_eq_true rfl))))) (rfl))
theorem b263_125 {t0 u0 : Nat} {x1 x2 s1 : Int32}  : hs_R scr d 263 125 [some (.ref t0), some (.int x1), some (.int x2)] [.int s1, .ref u0] (S, I, L, R) = (if s1 = 0 then hs_R scr d 263 133 [some (.ref t0), some (.int x1), some (.int x2)] [.int 0, .ref u0] (S, I, L, R) else hs_R scr d 263 128 [some (.ref t0), some (.int x1), some (.int x2)] [.ref u0] (S, I, L, R)) := Eq.trans (r_zeq d263_125 rfl) (q_ite (Eq.trans (r_ic d263_132 kI_0) (rfl)) (rfl))
theorem b263_128 {t0 u0 : Nat} {x1 x2 : Int32}  : hs_R scr d 263 128 [some (.ref t0), some (.int x1), some (.int x2)] [.ref u0] (S, I, L, R) = hs_R scr d 263 133 [some (.ref t0), some (.int x1), some (.int x2)] [.int 1, .ref u0] (S, I, L, R) := Eq.trans (r_ic d263_128 kI_1) (Eq.trans (r_goto d263_129 rfl) (rfl))
theorem b263_133 {t0 u0 : Nat} {x1 x2 s1 : Int32} (o_u0 : ok11 S R u0) : hs_R scr (d + 1) 263 133 [some (.ref t0), some (.int x1), some (.int x2)] [.int s1, .ref u0] (S, I, L, R) = ((hs_C scr d 248 [.ref u0, .int s1] (S, I, L, R)).bind fun o => hs_R scr (d + 1) 263 136 [some (.ref t0), some (.int x1), some (.int x2)] (o.1.toList ++ []) o.2) := r_cvE (as := [.int s1]) (r := []) d263_133 c263_220 ow248 o_u0.2.1 np248.symm rfl (hs_fitE mL248 (Nat.le_of_ble_eq_true rfl))
theorem b263_136 {t0 : Nat} {x1 x2 : Int32} (o_t0 : ok11 S R t0) : hs_R scr (d + 1) 263 136 [some (.ref t0), some (.int x1), some (.int x2)] [] (S, I, L, R) = ((hs_C scr d 221 [.ref t0, .int 0, .int 99] (S, I, L, R)).bind fun o => hs_R scr (d + 1) 263 150 [some (.ref t0), some (.int x1), some (.int x2)] (o.1.toList ++ [.int (x1 + 2), .ref (t0 + 5)]) o.2) := Eq.trans (r_al_n d263_136 rfl) (Eq.trans (r_getRe d263_137 f263_35 o_t0.2.1 (o_t0.2.2.2.2.2.2.2.2.2.2.1) (Nat.le_trans o_t0.1 (Nat.le_add_right _ _))) (Eq.trans (r_il_n d263_140 rfl) (Eq.trans (r_ic d263_141 kI_2) (Eq.trans (r_iadd d263_142) (Eq.trans (r_al_n d263_143 rfl) (Eq.trans (r_ic d263_144 kI_0) (Eq.trans (r_bp d263_145 kB_99) (r_cvE (as := [.int 0, .int 99]) (r := [.int (x1 + 2), .ref (t0 + 5)]) d263_147 c263_224 ow221 o_t0.2.1 np221.symm rfl (hs_fitE mL221 (Nat.le_of_ble_eq_true rfl))))))))))
theorem b263_150 {t0 u0 n_u0 : Nat} {x1 x2 s1 s2 : Int32} (a_u0 : S[u0]? = some (.inr (.int, n_u0))) : hs_R scr d 263 150 [some (.ref t0), some (.int x1), some (.int x2)] [.int s2, .int s1, .ref u0] (S, I, L, R) = (if hs_ib s1 n_u0 = true then some (none, (S, (hs_u I u0 (Int32.toNatClampNeg s1) s2), L, R)) else none) := Eq.trans (r_iast d263_150 a_u0) (q_ite (r_rv d263_151 rt263) rfl)
theorem e264 {t0 : Nat} {x1 : Int32} : hs_C scr d 264 [.ref t0, .int x1] h = hs_R scr d 264 0 [some (.ref t0), some (.int x1)] [] h := by rw [hs_C, mL264]; rfl
theorem b264_0 {t0 : Nat} {x1 : Int32} (o_t0 : ok11 S R t0) : hs_R scr (d + 1) 264 0 [some (.ref t0), some (.int x1)] [] (S, I, L, R) = ((hs_C scr d 223 [.long (Int32.toInt64 x1), .long 0, .long 15] (S, (hs_u (hs_u I t0 1 0) t0 0 0), L, R)).bind fun o => hs_R scr (d + 1) 264 19 [some (.ref t0), some (.int x1)] (o.1.toList ++ []) o.2) := Eq.trans (r_al_n d264_0 rfl) (Eq.trans (r_ic d264_1 kI_0) (Eq.trans (r_putI d264_2 f264_60 o_t0.2.1) (Eq.trans (r_al_n d264_5 rfl) (Eq.trans (r_ic d264_6 kI_0) (Eq.trans (r_putI d264_7 f264_63 o_t0.2.1) (Eq.trans (r_il_n d264_10 rfl) (Eq.trans (r_i2l d264_11) (Eq.trans (r_lc d264_12 kL_0) (Eq.trans (r_ldc2 d264_13 cl264_320) (r_cs (as := [.long (Int32.toInt64 x1), .long 0, .long 15]) (r := []) d264_16 c264_95 np223.symm rfl (hs_fitE mL223 (Nat.le_of_ble_eq_true rfl))))))))))))
theorem b264_19 {t0 : Nat} {x1 s0 : Int32} (o_t0 : ok11 S R t0) : hs_R scr (d + 1) 264 19 [some (.ref t0), some (.int x1)] [.int s0] (S, I, L, R) = (if s0 = 0 then ((hs_C scr d 265 [.ref t0, .int 5] (S, I, L, R)).bind fun o => hs_R scr (d + 1) 264 27 [some (.ref t0), some (.int x1)] (o.1.toList ++ []) o.2) else (if (10 : Int32) ≤ x1 then (if x1 = 10 then ((hs_C scr d 266 [.ref t0] (S, I, L, R)).bind fun o => hs_R scr (d + 1) 264 51 [some (.ref t0), some (.int x1)] (o.1.toList ++ []) o.2) else (if x1 = 11 then ((hs_C scr d 267 [.ref t0, .int (I (t0 + 5) 8)] (S, I, L, R)).bind fun o => hs_R scr (d + 1) 264 69 [some (.ref t0), some (.int x1)] (o.1.toList ++ []) o.2) else (if x1 = 12 then ((hs_C scr d 268 [.ref t0, .int 2] (S, I, L, R)).bind fun o => hs_R scr (d + 1) 264 81 [some (.ref t0), some (.int x1)] (o.1.toList ++ []) o.2) else (if x1 = 13 then ((hs_C scr d 268 [.ref t0, .int 0] (S, I, L, R)).bind fun o => hs_R scr (d + 1) 264 95 [some (.ref t0), some (.int x1)] (o.1.toList ++ []) o.2) else (if x1 = 14 then ((hs_C scr d 269 [.ref t0, .int 0, .int (I (t0 + 5) 0)] (S, I, L, R)).bind fun o => hs_R scr (d + 1) 264 115 [some (.ref t0), some (.int x1)] (o.1.toList ++ []) o.2) else ((hs_C scr d 270 [.ref t0] (S, I, L, R)).bind fun o => hs_R scr (d + 1) 264 122 [some (.ref t0), some (.int x1)] (o.1.toList ++ []) o.2)))))) else (if hs_ib x1 1995 = true then some (some (.int (I (t0 + 5) (Int32.toNatClampNeg x1))), (S, I, L, R)) else none))) := Eq.trans (r_zne d264_19 rfl) (q_ite (Eq.trans (r_al_n d264_22 rfl) (Eq.trans (r_ic d264_23 kI_5) (r_cvE (as := [.int 5]) (r := []) d264_24 c264_322 ow265 o_t0.2.1 np265.symm rfl (hs_fitE mL265 (Nat.le_of_ble_eq_true rfl))))) (Eq.trans (r_il_n d264_28 rfl) (Eq.trans (r_bp d264_29 kB_10) (Eq.trans (r_cge d264_31 rfl) (q_ite (Eq.trans (r_il_n d264_41 rfl) (Eq.trans (r_bp d264_42 kB_10) (Eq.trans (r_cne d264_44 rfl) (q_ite (Eq.trans (r_al_n d264_47 rfl) (r_cvE (as := []) (r := []) d264_48 c264_325 ow266 o_t0.2.1 np266.symm rfl (hs_fitE mL266 (Nat.le_of_ble_eq_true rfl)))) (Eq.trans (r_il_n d264_52 rfl) (Eq.trans (r_bp d264_53 kB_11) (Eq.trans (r_cne d264_55 rfl) (q_ite (Eq.trans (r_al_n d264_58 rfl) (Eq.trans (r_al_n d264_59 rfl) (Eq.trans (r_getRe d264_60 f264_35 o_t0.2.1 (o_t0.2.2.2.2.2.2.2.2.2.2.1) (Nat.le_trans o_t0.1 (Nat.le_add_right _ _))) (Eq.trans (r_bp d264_63 kB_8) (Eq.trans ((r_ialdC d264_65 (o_t0.2.2.2.2.2.2.2.2.2.2.2.1) ib_8_1995 tn_8)) (r_cvE (as := [.int (I (t0 + 5) 8)]) (r := []) d264_66 c264_328 ow267 o_t0.2.1 np267.symm rfl (hs_fitE mL267 (Nat.le_of_ble_eq_true rfl)))))))) (Eq.trans (r_il_n d264_70 rfl) (Eq.trans (r_bp d264_71 kB_12) (Eq.trans (r_cne d264_73 rfl) (q_ite (Eq.trans (r_al_n d264_76 rfl) (Eq.trans (r_ic d264_77 kI_2) (r_cvE (as := [.int 2]) (r := []) d264_78 c264_331 ow268 o_t0.2.1 np268.symm rfl (hs_fitE mL268 (Nat.le_of_ble_eq_true rfl))))) (Eq.trans (r_il_n d264_84 rfl) (Eq.trans (r_bp d264_85 kB_13) (Eq.trans (r_cne d264_87 rfl) (q_ite (Eq.trans (r_al_n d264_90 rfl) (Eq.trans (r_ic d264_91 kI_0) (r_cvE (as := [.int 0]) (r := []) d264_92 c264_331 ow268 o_t0.2.1 np268.symm rfl (hs_fitE mL268 (Nat.le_of_ble_eq_true rfl))))) (Eq.trans (r_il_n d264_98 rfl) (Eq.trans (r_bp d264_99 kB_14) (Eq.trans (r_cne d264_101 rfl) (q_ite (Eq.trans (r_al_n d264_104 rfl) (Eq.trans (r_ic d264_105 kI_0) (Eq.trans (r_al_n d264_106 rfl) (Eq.trans (r_getRe d264_107 f264_35 o_t0.2.1 (o_t0.2.2.2.2.2.2.2.2.2.2.1) (Nat.le_trans o_t0.1 (Nat.le_add_right _ _))) (Eq.trans (r_ic d264_110 kI_0) (Eq.trans ((r_ialdC d264_111 (o_t0.2.2.2.2.2.2.2.2.2.2.2.1) ib_0_1995 tn_0)) (r_cvE (as := [.int 0, .int (I (t0 + 5) 0)]) (r := []) d264_112 c264_334 ow269 o_t0.2.1 np269.symm rfl (hs_fitE mL269 (Nat.le_of_ble_eq_true rfl))))))))) (Eq.trans (r_al_n d264_118 rfl) (r_cvE (as := []) (r := []) d264_119 c264_337 ow270 o_t0.2.1 np270.symm rfl (hs_fitE mL270 (Nat.le_of_ble_eq_true rfl)))))))))))))))))))))))) (Eq.trans (r_al_n d264_34 rfl) (Eq.trans (r_getRe d264_35 f264_35 o_t0.2.1 (o_t0.2.2.2.2.2.2.2.2.2.2.1) (Nat.le_trans o_t0.1 (Nat.le_add_right _ _))) (Eq.trans (r_il_n d264_38 rfl) (Eq.trans (r_iald d264_39 (o_t0.2.2.2.2.2.2.2.2.2.2.2.1)) (q_ite (r_ri d264_40 rt264) rfl))))))))))
theorem b264_27 {t0 : Nat} {x1 s0 : Int32}  : hs_R scr d 264 27 [some (.ref t0), some (.int x1)] [.int s0] (S, I, L, R) = some (some (.int s0), (S, I, L, R)) := r_ri d264_27 rt264
theorem b264_51 {t0 : Nat} {x1 s0 : Int32}  : hs_R scr d 264 51 [some (.ref t0), some (.int x1)] [.int s0] (S, I, L, R) = some (some (.int s0), (S, I, L, R)) := r_ri d264_51 rt264
theorem b264_69 {t0 : Nat} {x1 s0 : Int32}  : hs_R scr d 264 69 [some (.ref t0), some (.int x1)] [.int s0] (S, I, L, R) = some (some (.int s0), (S, I, L, R)) := r_ri d264_69 rt264
theorem b264_81 {t0 : Nat} {x1 s0 : Int32}  : hs_R scr d 264 81 [some (.ref t0), some (.int x1)] [.int s0] (S, I, L, R) = hs_R scr d 264 122 [some (.ref t0), some (.int x1)] [.int s0] (S, I, L, R) := Eq.trans (r_goto d264_81 rfl) (rfl)
theorem b264_95 {t0 : Nat} {x1 s0 : Int32}  : hs_R scr d 264 95 [some (.ref t0), some (.int x1)] [.int s0] (S, I, L, R) = hs_R scr d 264 122 [some (.ref t0), some (.int x1)] [.int s0] (S, I, L, R) := Eq.trans (r_goto d264_95 rfl) (rfl)
theorem b264_115 {t0 : Nat} {x1 s0 : Int32}  : hs_R scr d 264 115 [some (.ref t0), some (.int x1)] [.int s0] (S, I, L, R) = hs_R scr d 264 122 [some (.ref t0), some (.int x1)] [.int s0] (S, I, L, R) := Eq.trans (r_goto d264_115 rfl) (rfl)
theorem b264_122 {t0 : Nat} {x1 s0 : Int32}  : hs_R scr d 264 122 [some (.ref t0), some (.int x1)] [.int s0] (S, I, L, R) = some (some (.int s0), (S, I, L, R)) := r_ri d264_122 rt264
theorem e265 {t0 : Nat} {x1 : Int32} : hs_C scr d 265 [.ref t0, .int x1] h = hs_R scr d 265 0 [some (.ref t0), some (.int x1)] [] h := by rw [hs_C, mL265]; rfl
theorem b265_0 {t0 : Nat} {x1 : Int32} (o_t0 : ok11 S R t0) : hs_R scr d 265 0 [some (.ref t0), some (.int x1)] [] (S, I, L, R) = some (some (.int (-1)), (S, (hs_u I t0 0 x1), L, R)) := Eq.trans (r_al_n d265_0 rfl) (Eq.trans (r_il_n d265_1 rfl) (Eq.trans (r_putI d265_2 f265_63 o_t0.2.1) (Eq.trans (r_ic d265_5 kI_m1) (r_ri d265_6 rt265))))
theorem e266 {t0 : Nat} : hs_C scr d 266 [.ref t0] h = hs_R scr d 266 0 [some (.ref t0), none, none] [] h := by rw [hs_C, mL266]; rfl
theorem b266_0 {t0 : Nat}  : hs_R scr d 266 0 [some (.ref t0), none, none] [] (S, I, L, R) = hs_R scr d 266 4 [some (.ref t0), some (.int 0), some (.int 0)] [] (S, I, L, R) := Eq.trans (r_ic d266_0 kI_0) (Eq.trans (r_is_n (loc' := [some (.ref t0), some (.int 0), none]) d266_1 rfl) (Eq.trans (r_ic d266_2 kI_0) (Eq.trans (r_is_n (loc' := [some (.ref t0), some (.int 0), some (.int 0)]) d266_3 rfl) (rfl))))
theorem b266_4 {t0 : Nat} {x1 x2 : Int32} (o_t0 : ok11 S R t0) : hs_R scr d 266 4 [some (.ref t0), some (.int x1), some (.int x2)] [] (S, I, L, R) = (if (I (t0 + 5) 0) ≤ x2 then some (some (.int x1), (S, I, L, R)) else (if hs_ib ((34 : Int32) + x2) 1995 = true then (if (I (t0 + 5) (Int32.toNatClampNeg ((34 : Int32) + x2))) ≤ 0 then hs_R scr d 266 34 [some (.ref t0), some (.int x1), some (.int x2)] [.int 0, .int x1] (S, I, L, R) else hs_R scr d 266 34 [some (.ref t0), some (.int x1), some (.int x2)] [.int ((1 : Int32) <<< (x2 &&& 31)), .int x1] (S, I, L, R)) else none)) := Eq.trans (r_il_n d266_4 rfl) (Eq.trans (r_al_n d266_5 rfl) (Eq.trans (r_getRe d266_6 f266_35 o_t0.2.1 (o_t0.2.2.2.2.2.2.2.2.2.2.1) (Nat.le_trans o_t0.1 (Nat.le_add_right _ _))) (Eq.trans (r_ic d266_9 kI_0) (Eq.trans ((r_ialdC d266_10 (o_t0.2.2.2.2.2.2.2.2.2.2.2.1) ib_0_1995 tn_0)) (Eq.trans (r_cge d266_11 rfl) (q_ite (Eq.trans (r_il_n d266_42 rfl) (r_ri d266_43 rt266)) (Eq.trans (r_il_n d266_14 rfl) (Eq.trans (r_al_n d266_15 rfl) (Eq.trans (r_getRe d266_16 f266_35 o_t0.2.1 (o_t0.2.2.2.2.2.2.2.2.2.2.1) (Nat.le_trans o_t0.1 (Nat.le_add_right _ _))) (Eq.trans (r_bp d266_19 kB_34) (Eq.trans (r_il_n d266_21 rfl) (Eq.trans (r_iadd d266_22) (Eq.trans (r_iald d266_23 (o_t0.2.2.2.2.2.2.2.2.2.2.2.1)) (q_ite (Eq.trans (r_zle d266_24 rfl) (q_ite (Eq.trans (r_ic d266_33 kI_0) (rfl)) (Eq.trans (r_ic d266_27 kI_1) (Eq.trans (r_il_n d266_28 rfl) (Eq.trans (r_ishl d266_29) (Eq.trans (r_goto d266_30 rfl) (rfl))))))) rfl))))))))))))))
theorem b266_34 {t0 : Nat} {x1 x2 s0 s1 : Int32}  : hs_R scr d 266 34 [some (.ref t0), some (.int x1), some (.int x2)] [.int s1, .int s0] (S, I, L, R) = hs_R scr d 266 4 [some (.ref t0), some (.int (s0 ||| s1)), some (.int (x2 + 1))] [] (S, I, L, R) := Eq.trans (r_ior d266_34) (Eq.trans (r_is_n (loc' := [some (.ref t0), some (.int (s0 ||| s1)), some (.int x2)]) d266_35 rfl) (Eq.trans (r_inc (loc' := [some (.ref t0), some (.int (s0 ||| s1)), some (.int (x2 + 1))]) d266_36 kI_1 rfl rfl) (Eq.trans (r_goto d266_39 rfl) (rfl))))
theorem e267 {t0 : Nat} {x1 : Int32} : hs_C scr d 267 [.ref t0, .int x1] h = hs_R scr d 267 0 [some (.ref t0), some (.int x1), none, none, none] [] h := by rw [hs_C, mL267]; rfl
theorem b267_0 {t0 : Nat} {x1 : Int32} (o_t0 : ok11 S R t0) : hs_R scr d 267 0 [some (.ref t0), some (.int x1), none, none, none] [] (S, I, L, R) = (if (I (t0 + 5) 7) = 0 then none else hs_R scr d 267 15 [some (.ref t0), some (.int x1), some (.int (x1 / (I (t0 + 5) 7))), some (.int 0), some (.int 0)] [] (S, I, L, R)) := Eq.trans (r_il_n d267_0 rfl) (Eq.trans (r_al_n d267_1 rfl) (Eq.trans (r_getRe d267_2 f267_35 o_t0.2.1 (o_t0.2.2.2.2.2.2.2.2.2.2.1) (Nat.le_trans o_t0.1 (Nat.le_add_right _ _))) (Eq.trans (r_bp d267_5 kB_7) (Eq.trans ((r_ialdC d267_7 (o_t0.2.2.2.2.2.2.2.2.2.2.2.1) ib_7_1995 tn_7)) (Eq.trans (r_idiv d267_8) (q_ite rfl (Eq.trans (r_is_n (loc' := [some (.ref t0), some (.int x1), some (.int (x1 / (I (t0 + 5) 7))), none, none]) d267_9 rfl) (Eq.trans (r_ic d267_10 kI_0) (Eq.trans (r_is_n (loc' := [some (.ref t0), some (.int x1), some (.int (x1 / (I (t0 + 5) 7))), some (.int 0), none]) d267_11 rfl) (Eq.trans (r_ic d267_12 kI_0) (Eq.trans (r_is (loc' := [some (.ref t0), some (.int x1), some (.int (x1 / (I (t0 + 5) 7))), some (.int 0), some (.int 0)]) d267_13 rfl) (rfl))))))))))))
theorem b267_15 {t0 : Nat} {x1 x2 x3 x4 : Int32} (o_t0 : ok11 S R t0) : hs_R scr d 267 15 [some (.ref t0), some (.int x1), some (.int x2), some (.int x3), some (.int x4)] [] (S, I, L, R) = (if (I (t0 + 5) 0) ≤ x4 then some (some (.int x3), (S, I, L, R)) else (if x2 ≤ (if (((I (t0 + 5) 0) - 1) - x4) < x4 then (((I (t0 + 5) 0) - 1) - x4) else x4) then hs_R scr d 267 55 [some (.ref t0), some (.int x1), some (.int x2), some (.int x3), some (.int x4)] [.int 0, .int x3] (S, I, L, R) else hs_R scr d 267 55 [some (.ref t0), some (.int x1), some (.int x2), some (.int x3), some (.int x4)] [.int ((1 : Int32) <<< (x4 &&& 31)), .int x3] (S, I, L, R))) := Eq.trans (r_il d267_15 rfl) (Eq.trans (r_al_n d267_17 rfl) (Eq.trans (r_getRe d267_18 f267_35 o_t0.2.1 (o_t0.2.2.2.2.2.2.2.2.2.2.1) (Nat.le_trans o_t0.1 (Nat.le_add_right _ _))) (Eq.trans (r_ic d267_21 kI_0) (Eq.trans ((r_ialdC d267_22 (o_t0.2.2.2.2.2.2.2.2.2.2.2.1) ib_0_1995 tn_0)) (Eq.trans (r_cge d267_23 rfl) (q_ite (Eq.trans (r_il_n d267_63 rfl) (r_ri d267_64 rt267)) (Eq.trans (r_il_n d267_26 rfl) (Eq.trans (r_il d267_27 rfl) (Eq.trans (r_al_n d267_29 rfl) (Eq.trans (r_getRe d267_30 f267_35 o_t0.2.1 (o_t0.2.2.2.2.2.2.2.2.2.2.1) (Nat.le_trans o_t0.1 (Nat.le_add_right _ _))) (Eq.trans (r_ic d267_33 kI_0) (Eq.trans ((r_ialdC d267_34 (o_t0.2.2.2.2.2.2.2.2.2.2.2.1) ib_0_1995 tn_0)) (Eq.trans (r_ic d267_35 kI_1) (Eq.trans (r_isub d267_36) (Eq.trans (r_il d267_37 rfl) (Eq.trans (r_isub d267_39) (Eq.trans (r_min d267_40 c267_317 rfl) (Eq.trans (r_il_n d267_43 rfl) (Eq.trans (r_cge d267_44 rfl) (q_ite (Eq.trans (r_ic d267_54 kI_0) (rfl)) (Eq.trans (r_ic d267_47 kI_1) (Eq.trans (r_il d267_48 rfl) (Eq.trans (r_ishl d267_50) (Eq.trans (r_goto d267_51 rfl) (rfl)))))))))))))))))))))))))
theorem b267_55 {t0 : Nat} {x1 x2 x3 x4 s0 s1 : Int32}  : hs_R scr d 267 55 [some (.ref t0), some (.int x1), some (.int x2), some (.int x3), some (.int x4)] [.int s1, .int s0] (S, I, L, R) = hs_R scr d 267 15 [some (.ref t0), some (.int x1), some (.int x2), some (.int (s0 ||| s1)), some (.int (x4 + 1))] [] (S, I, L, R) := Eq.trans (r_ior d267_55) (Eq.trans (r_is_n (loc' := [some (.ref t0), some (.int x1), some (.int x2), some (.int (s0 ||| s1)), some (.int x4)]) d267_56 rfl) (Eq.trans (r_inc (loc' := [some (.ref t0), some (.int x1), some (.int x2), some (.int (s0 ||| s1)), some (.int (x4 + 1))]) d267_57 kI_1 rfl rfl) (Eq.trans (r_goto d267_60 rfl) (rfl))))
theorem e268 {t0 : Nat} {x1 : Int32} : hs_C scr d 268 [.ref t0, .int x1] h = hs_R scr d 268 0 [some (.ref t0), some (.int x1), none, none] [] h := by rw [hs_C, mL268]; rfl
theorem b268_0 {t0 : Nat} {x1 : Int32}  : hs_R scr d 268 0 [some (.ref t0), some (.int x1), none, none] [] (S, I, L, R) = hs_R scr d 268 4 [some (.ref t0), some (.int x1), some (.int 0), some (.int 0)] [] (S, I, L, R) := Eq.trans (r_ic d268_0 kI_0) (Eq.trans (r_is_n (loc' := [some (.ref t0), some (.int x1), some (.int 0), none]) d268_1 rfl) (Eq.trans (r_ic d268_2 kI_0) (Eq.trans (r_is_n (loc' := [some (.ref t0), some (.int x1), some (.int 0), some (.int 0)]) d268_3 rfl) (rfl))))
theorem b268_4 {t0 : Nat} {x1 x2 x3 : Int32} (o_t0 : ok11 S R t0) : hs_R scr d 268 4 [some (.ref t0), some (.int x1), some (.int x2), some (.int x3)] [] (S, I, L, R) = (if (I (t0 + 5) 0) ≤ x3 then some (some (.int x2), (S, I, L, R)) else (if hs_ib ((26 : Int32) + x3) 1995 = true then (if (I (t0 + 5) (Int32.toNatClampNeg ((26 : Int32) + x3))) = x1 then hs_R scr d 268 35 [some (.ref t0), some (.int x1), some (.int x2), some (.int x3)] [.int ((1 : Int32) <<< (x3 &&& 31)), .int x2] (S, I, L, R) else hs_R scr d 268 35 [some (.ref t0), some (.int x1), some (.int x2), some (.int x3)] [.int 0, .int x2] (S, I, L, R)) else none)) := Eq.trans (r_il_n d268_4 rfl) (Eq.trans (r_al_n d268_5 rfl) (Eq.trans (r_getRe d268_6 f268_35 o_t0.2.1 (o_t0.2.2.2.2.2.2.2.2.2.2.1) (Nat.le_trans o_t0.1 (Nat.le_add_right _ _))) (Eq.trans (r_ic d268_9 kI_0) (Eq.trans ((r_ialdC d268_10 (o_t0.2.2.2.2.2.2.2.2.2.2.2.1) ib_0_1995 tn_0)) (Eq.trans (r_cge d268_11 rfl) (q_ite (Eq.trans (r_il_n d268_43 rfl) (r_ri d268_44 rt268)) (Eq.trans (r_il_n d268_14 rfl) (Eq.trans (r_al_n d268_15 rfl) (Eq.trans (r_getRe d268_16 f268_35 o_t0.2.1 (o_t0.2.2.2.2.2.2.2.2.2.2.1) (Nat.le_trans o_t0.1 (Nat.le_add_right _ _))) (Eq.trans (r_bp d268_19 kB_26) (Eq.trans (r_il_n d268_21 rfl) (Eq.trans (r_iadd d268_22) (Eq.trans (r_iald d268_23 (o_t0.2.2.2.2.2.2.2.2.2.2.2.1)) (q_ite (Eq.trans (r_il_n d268_24 rfl) (Eq.trans (r_cne d268_25 rfl) (q_ite (Eq.trans (r_ic d268_28 kI_1) (Eq.trans (r_il_n d268_29 rfl) (Eq.trans (r_ishl d268_30) (Eq.trans (r_goto d268_31 rfl) (rfl))))) (Eq.trans (r_ic d268_34 kI_0) (rfl))))) rfl))))))))))))))
theorem b268_35 {t0 : Nat} {x1 x2 x3 s0 s1 : Int32}  : hs_R scr d 268 35 [some (.ref t0), some (.int x1), some (.int x2), some (.int x3)] [.int s1, .int s0] (S, I, L, R) = hs_R scr d 268 4 [some (.ref t0), some (.int x1), some (.int (s0 ||| s1)), some (.int (x3 + 1))] [] (S, I, L, R) := Eq.trans (r_ior d268_35) (Eq.trans (r_is_n (loc' := [some (.ref t0), some (.int x1), some (.int (s0 ||| s1)), some (.int x3)]) d268_36 rfl) (Eq.trans (r_inc (loc' := [some (.ref t0), some (.int x1), some (.int (s0 ||| s1)), some (.int (x3 + 1))]) d268_37 kI_1 rfl rfl) (Eq.trans (r_goto d268_40 rfl) (rfl))))
theorem e269 {t0 : Nat} {x1 : Int32} {x2 : Int32} : hs_C scr d 269 [.ref t0, .int x1, .int x2] h = hs_R scr d 269 0 [some (.ref t0), some (.int x1), some (.int x2), none, none] [] h := by rw [hs_C, mL269]; rfl
theorem b269_0 {t0 : Nat} {x1 x2 : Int32}  : hs_R scr d 269 0 [some (.ref t0), some (.int x1), some (.int x2), none, none] [] (S, I, L, R) = hs_R scr d 269 5 [some (.ref t0), some (.int x1), some (.int x2), some (.int 0), some (.int x1)] [] (S, I, L, R) := Eq.trans (r_ic d269_0 kI_0) (Eq.trans (r_is_n (loc' := [some (.ref t0), some (.int x1), some (.int x2), some (.int 0), none]) d269_1 rfl) (Eq.trans (r_il_n d269_2 rfl) (Eq.trans (r_is (loc' := [some (.ref t0), some (.int x1), some (.int x2), some (.int 0), some (.int x1)]) d269_3 rfl) (rfl))))
theorem b269_5 {t0 : Nat} {x1 x2 x3 x4 : Int32} (o_t0 : ok11 S R t0) : hs_R scr d 269 5 [some (.ref t0), some (.int x1), some (.int x2), some (.int x3), some (.int x4)] [] (S, I, L, R) = (if x2 ≤ x4 then some (some (.int x3), (S, I, L, R)) else (if hs_ib ((10 : Int32) + x4) 1995 = true then hs_R scr d 269 5 [some (.ref t0), some (.int x1), some (.int x2), some (.int (x3 + (I (t0 + 5) (Int32.toNatClampNeg ((10 : Int32) + x4))))), some (.int (x4 + 1))] [] (S, I, L, R) else none)) := Eq.trans (r_il d269_5 rfl) (Eq.trans (r_il_n d269_7 rfl) (Eq.trans (r_cge d269_8 rfl) (q_ite (Eq.trans (r_il_n d269_30 rfl) (r_ri d269_31 rt269)) (Eq.trans (r_il_n d269_11 rfl) (Eq.trans (r_al_n d269_12 rfl) (Eq.trans (r_getRe d269_13 f269_35 o_t0.2.1 (o_t0.2.2.2.2.2.2.2.2.2.2.1) (Nat.le_trans o_t0.1 (Nat.le_add_right _ _))) (Eq.trans (r_bp d269_16 kB_10) (Eq.trans (r_il d269_18 rfl) (Eq.trans (r_iadd d269_20) (Eq.trans (r_iald d269_21 (o_t0.2.2.2.2.2.2.2.2.2.2.2.1)) (q_ite (Eq.trans (r_iadd d269_22) (Eq.trans (r_is_n (loc' := [some (.ref t0), some (.int x1), some (.int x2), some (.int (x3 + (I (t0 + 5) (Int32.toNatClampNeg ((10 : Int32) + x4))))), some (.int x4)]) d269_23 rfl) (Eq.trans (r_inc (loc' := [some (.ref t0), some (.int x1), some (.int x2), some (.int (x3 + (I (t0 + 5) (Int32.toNatClampNeg ((10 : Int32) + x4))))), some (.int (x4 + 1))]) d269_24 kI_1 rfl rfl) (Eq.trans (r_goto d269_27 rfl) (rfl))))) rfl)))))))))))
theorem e270 {t0 : Nat} : hs_C scr d 270 [.ref t0] h = hs_R scr d 270 0 [some (.ref t0), none, none] [] h := by rw [hs_C, mL270]; rfl
theorem b270_0 {t0 : Nat}  : hs_R scr d 270 0 [some (.ref t0), none, none] [] (S, I, L, R) = hs_R scr d 270 4 [some (.ref t0), some (.int 0), some (.int 0)] [] (S, I, L, R) := Eq.trans (r_ic d270_0 kI_0) (Eq.trans (r_is_n (loc' := [some (.ref t0), some (.int 0), none]) d270_1 rfl) (Eq.trans (r_ic d270_2 kI_0) (Eq.trans (r_is_n (loc' := [some (.ref t0), some (.int 0), some (.int 0)]) d270_3 rfl) (rfl))))
theorem b270_4 {t0 : Nat} {x1 x2 : Int32} (o_t0 : ok11 S R t0) : hs_R scr d 270 4 [some (.ref t0), some (.int x1), some (.int x2)] [] (S, I, L, R) = (if (I (t0 + 5) 1) ≤ x2 then some (some (.int x1), (S, I, L, R)) else (if hs_ib ((42 : Int32) + x2) 1995 = true then hs_R scr d 270 4 [some (.ref t0), some (.int (x1 + (I (t0 + 5) (Int32.toNatClampNeg ((42 : Int32) + x2))))), some (.int (x2 + 1))] [] (S, I, L, R) else none)) := Eq.trans (r_il_n d270_4 rfl) (Eq.trans (r_al_n d270_5 rfl) (Eq.trans (r_getRe d270_6 f270_35 o_t0.2.1 (o_t0.2.2.2.2.2.2.2.2.2.2.1) (Nat.le_trans o_t0.1 (Nat.le_add_right _ _))) (Eq.trans (r_ic d270_9 kI_1) (Eq.trans ((r_ialdC d270_10 (o_t0.2.2.2.2.2.2.2.2.2.2.2.1) ib_1_1995 tn_1)) (Eq.trans (r_cge d270_11 rfl) (q_ite (Eq.trans (r_il_n d270_32 rfl) (r_ri d270_33 rt270)) (Eq.trans (r_il_n d270_14 rfl) (Eq.trans (r_al_n d270_15 rfl) (Eq.trans (r_getRe d270_16 f270_35 o_t0.2.1 (o_t0.2.2.2.2.2.2.2.2.2.2.1) (Nat.le_trans o_t0.1 (Nat.le_add_right _ _))) (Eq.trans (r_bp d270_19 kB_42) (Eq.trans (r_il_n d270_21 rfl) (Eq.trans (r_iadd d270_22) (Eq.trans (r_iald d270_23 (o_t0.2.2.2.2.2.2.2.2.2.2.2.1)) (q_ite (Eq.trans (r_iadd d270_24) (Eq.trans (r_is_n (loc' := [some (.ref t0), some (.int (x1 + (I (t0 + 5) (Int32.toNatClampNeg ((42 : Int32) + x2))))), some (.int x2)]) d270_25 rfl) (Eq.trans (r_inc (loc' := [some (.ref t0), some (.int (x1 + (I (t0 + 5) (Int32.toNatClampNeg ((42 : Int32) + x2))))), some (.int (x2 + 1))]) d270_26 kI_1 rfl rfl) (Eq.trans (r_goto d270_29 rfl) (rfl))))) rfl))))))))))))))
theorem e271 {t0 : Nat} {x1 : Int32} {x2 : Int32} : hs_C scr d 271 [.ref t0, .int x1, .int x2] h = hs_R scr d 271 0 [some (.ref t0), some (.int x1), some (.int x2)] [] h := by rw [hs_C, mL271]; rfl
theorem b271_0 {t0 : Nat} {x1 x2 : Int32} (o_t0 : ok11 S R t0) : hs_R scr (d + 1) 271 0 [some (.ref t0), some (.int x1), some (.int x2)] [] (S, I, L, R) = ((hs_C scr d 272 [.ref t0, .int x1] (S, (hs_u (hs_u I t0 1 0) t0 0 0), L, R)).bind fun o => hs_R scr (d + 1) 271 15 [some (.ref t0), some (.int x1), some (.int x2)] (o.1.toList ++ []) o.2) := Eq.trans (r_al_n d271_0 rfl) (Eq.trans (r_ic d271_1 kI_0) (Eq.trans (r_putI d271_2 f271_60 o_t0.2.1) (Eq.trans (r_al_n d271_5 rfl) (Eq.trans (r_ic d271_6 kI_0) (Eq.trans (r_putI d271_7 f271_63 o_t0.2.1) (Eq.trans (r_al_n d271_10 rfl) (Eq.trans (r_il_n d271_11 rfl) (r_cvE (as := [.int x1]) (r := []) d271_12 c271_340 ow272 o_t0.2.1 np272.symm rfl (hs_fitE mL272 (Nat.le_of_ble_eq_true rfl))))))))))
theorem b271_15 {t0 : Nat} {x1 x2 s0 : Int32} (o_t0 : ok11 S R t0) : hs_R scr (d + 1) 271 15 [some (.ref t0), some (.int x1), some (.int x2)] [.int s0] (S, I, L, R) = (if s0 = 0 then ((hs_C scr d 265 [.ref t0, .int 2] (S, I, L, R)).bind fun o => hs_R scr (d + 1) 271 23 [some (.ref t0), some (.int x1), some (.int x2)] (o.1.toList ++ []) o.2) else ((hs_C scr d 223 [.long (Int32.toInt64 x2), .long 0, .long 3] (S, I, L, R)).bind fun o => hs_R scr (d + 1) 271 33 [some (.ref t0), some (.int x1), some (.int x2)] (o.1.toList ++ []) o.2)) := Eq.trans (r_zne d271_15 rfl) (q_ite (Eq.trans (r_al_n d271_18 rfl) (Eq.trans (r_ic d271_19 kI_2) (r_cvE (as := [.int 2]) (r := []) d271_20 c271_322 ow265 o_t0.2.1 np265.symm rfl (hs_fitE mL265 (Nat.le_of_ble_eq_true rfl))))) (Eq.trans (r_il_n d271_24 rfl) (Eq.trans (r_i2l d271_25) (Eq.trans (r_lc d271_26 kL_0) (Eq.trans (r_ldc2 d271_27 cl271_93) (r_cs (as := [.long (Int32.toInt64 x2), .long 0, .long 3]) (r := []) d271_30 c271_95 np223.symm rfl (hs_fitE mL223 (Nat.le_of_ble_eq_true rfl))))))))
theorem b271_23 {t0 : Nat} {x1 x2 s0 : Int32}  : hs_R scr d 271 23 [some (.ref t0), some (.int x1), some (.int x2)] [.int s0] (S, I, L, R) = some (some (.int s0), (S, I, L, R)) := r_ri d271_23 rt271
theorem b271_33 {t0 : Nat} {x1 x2 s0 : Int32} (o_t0 : ok11 S R t0) : hs_R scr (d + 1) 271 33 [some (.ref t0), some (.int x1), some (.int x2)] [.int s0] (S, I, L, R) = (if s0 = 0 then ((hs_C scr d 265 [.ref t0, .int 5] (S, I, L, R)).bind fun o => hs_R scr (d + 1) 271 58 [some (.ref t0), some (.int x1), some (.int x2)] (o.1.toList ++ []) o.2) else (if hs_ib (((10 : Int32) + ((8 : Int32) * x2)) + x1) 1995 = true then hs_R scr (d + 1) 271 58 [some (.ref t0), some (.int x1), some (.int x2)] [.int (I (t0 + 5) (Int32.toNatClampNeg (((10 : Int32) + ((8 : Int32) * x2)) + x1)))] (S, I, L, R) else none)) := Eq.trans (r_zeq d271_33 rfl) (q_ite (Eq.trans (r_al_n d271_53 rfl) (Eq.trans (r_ic d271_54 kI_5) (r_cvE (as := [.int 5]) (r := []) d271_55 c271_322 ow265 o_t0.2.1 np265.symm rfl (hs_fitE mL265 (Nat.le_of_ble_eq_true rfl))))) (Eq.trans (r_al_n d271_36 rfl) (Eq.trans (r_getRe d271_37 f271_35 o_t0.2.1 (o_t0.2.2.2.2.2.2.2.2.2.2.1) (Nat.le_trans o_t0.1 (Nat.le_add_right _ _))) (Eq.trans (r_bp d271_40 kB_10) (Eq.trans (r_bp d271_42 kB_8) (Eq.trans (r_il_n d271_44 rfl) (Eq.trans (r_imul d271_45) (Eq.trans (r_iadd d271_46) (Eq.trans (r_il_n d271_47 rfl) (Eq.trans (r_iadd d271_48) (Eq.trans (r_iald d271_49 (o_t0.2.2.2.2.2.2.2.2.2.2.2.1)) (q_ite (Eq.trans (r_goto d271_50 rfl) (rfl)) rfl))))))))))))
theorem b271_58 {t0 : Nat} {x1 x2 s0 : Int32}  : hs_R scr d 271 58 [some (.ref t0), some (.int x1), some (.int x2)] [.int s0] (S, I, L, R) = some (some (.int s0), (S, I, L, R)) := r_ri d271_58 rt271
theorem e272 {t0 : Nat} {x1 : Int32} : hs_C scr d 272 [.ref t0, .int x1] h = hs_R scr d 272 0 [some (.ref t0), some (.int x1)] [] h := by rw [hs_C, mL272]; rfl
theorem b272_0 {t0 : Nat} {x1 : Int32} (o_t0 : ok11 S R t0) : hs_R scr (d + 1) 272 0 [some (.ref t0), some (.int x1)] [] (S, I, L, R) = ((hs_C scr d 223 [.long (Int32.toInt64 x1), .long 0, .long (Int32.toInt64 ((I (t0 + 5) 0) - 1))] (S, I, L, R)).bind fun o => hs_R scr (d + 1) 272 15 [some (.ref t0), some (.int x1)] (o.1.toList ++ []) o.2) := Eq.trans (r_il_n d272_0 rfl) (Eq.trans (r_i2l d272_1) (Eq.trans (r_lc d272_2 kL_0) (Eq.trans (r_al_n d272_3 rfl) (Eq.trans (r_getRe d272_4 f272_35 o_t0.2.1 (o_t0.2.2.2.2.2.2.2.2.2.2.1) (Nat.le_trans o_t0.1 (Nat.le_add_right _ _))) (Eq.trans (r_ic d272_7 kI_0) (Eq.trans ((r_ialdC d272_8 (o_t0.2.2.2.2.2.2.2.2.2.2.2.1) ib_0_1995 tn_0)) (Eq.trans (r_ic d272_9 kI_1) (Eq.trans (r_isub d272_10) (Eq.trans (r_i2l d272_11) (r_cs (as := [.long (Int32.toInt64 x1), .long 0, .long (Int32.toInt64 ((I (t0 + 5) 0) - 1))]) (r := []) d272_12 c272_95 np223.symm rfl (hs_fitE mL223 (Nat.le_of_ble_eq_true rfl))))))))))))
theorem b272_15 {t0 : Nat} {x1 s0 : Int32}  : hs_R scr d 272 15 [some (.ref t0), some (.int x1)] [.int s0] (S, I, L, R) = (if s0 = 0 ∨ s0 = 1 then some (some (.int s0), (S, I, L, R)) else none) := r_rz d272_15 rt272
theorem e273 {t0 : Nat} {x1 : Int32} {x2 : Int32} : hs_C scr d 273 [.ref t0, .int x1, .int x2] h = hs_R scr d 273 0 [some (.ref t0), some (.int x1), some (.int x2)] [] h := by rw [hs_C, mL273]; rfl
theorem b273_0 {t0 : Nat} {x1 x2 : Int32} (o_t0 : ok11 S R t0) : hs_R scr (d + 1) 273 0 [some (.ref t0), some (.int x1), some (.int x2)] [] (S, I, L, R) = ((hs_C scr d 274 [.ref t0, .int x1] (S, (hs_u (hs_u I t0 1 0) t0 0 0), L, R)).bind fun o => hs_R scr (d + 1) 273 15 [some (.ref t0), some (.int x1), some (.int x2)] (o.1.toList ++ []) o.2) := Eq.trans (r_al_n d273_0 rfl) (Eq.trans (r_ic d273_1 kI_0) (Eq.trans (r_putI d273_2 f273_60 o_t0.2.1) (Eq.trans (r_al_n d273_5 rfl) (Eq.trans (r_ic d273_6 kI_0) (Eq.trans (r_putI d273_7 f273_63 o_t0.2.1) (Eq.trans (r_al_n d273_10 rfl) (Eq.trans (r_il_n d273_11 rfl) (r_cvE (as := [.int x1]) (r := []) d273_12 c273_343 ow274 o_t0.2.1 np274.symm rfl (hs_fitE mL274 (Nat.le_of_ble_eq_true rfl))))))))))
theorem b273_15 {t0 : Nat} {x1 x2 s0 : Int32} (o_t0 : ok11 S R t0) : hs_R scr (d + 1) 273 15 [some (.ref t0), some (.int x1), some (.int x2)] [.int s0] (S, I, L, R) = (if s0 = 0 then ((hs_C scr d 265 [.ref t0, .int 2] (S, I, L, R)).bind fun o => hs_R scr (d + 1) 273 23 [some (.ref t0), some (.int x1), some (.int x2)] (o.1.toList ++ []) o.2) else ((hs_C scr d 223 [.long (Int32.toInt64 x2), .long 0, .long 1] (S, I, L, R)).bind fun o => hs_R scr (d + 1) 273 31 [some (.ref t0), some (.int x1), some (.int x2)] (o.1.toList ++ []) o.2)) := Eq.trans (r_zne d273_15 rfl) (q_ite (Eq.trans (r_al_n d273_18 rfl) (Eq.trans (r_ic d273_19 kI_2) (r_cvE (as := [.int 2]) (r := []) d273_20 c273_322 ow265 o_t0.2.1 np265.symm rfl (hs_fitE mL265 (Nat.le_of_ble_eq_true rfl))))) (Eq.trans (r_il_n d273_24 rfl) (Eq.trans (r_i2l d273_25) (Eq.trans (r_lc d273_26 kL_0) (Eq.trans (r_lc d273_27 kL_1) (r_cs (as := [.long (Int32.toInt64 x2), .long 0, .long 1]) (r := []) d273_28 c273_95 np223.symm rfl (hs_fitE mL223 (Nat.le_of_ble_eq_true rfl))))))))
theorem b273_23 {t0 : Nat} {x1 x2 s0 : Int32}  : hs_R scr d 273 23 [some (.ref t0), some (.int x1), some (.int x2)] [.int s0] (S, I, L, R) = some (some (.int s0), (S, I, L, R)) := r_ri d273_23 rt273
theorem b273_31 {t0 : Nat} {x1 x2 s0 : Int32} (o_t0 : ok11 S R t0) : hs_R scr (d + 1) 273 31 [some (.ref t0), some (.int x1), some (.int x2)] [.int s0] (S, I, L, R) = (if s0 = 0 then ((hs_C scr d 265 [.ref t0, .int 5] (S, I, L, R)).bind fun o => hs_R scr (d + 1) 273 55 [some (.ref t0), some (.int x1), some (.int x2)] (o.1.toList ++ []) o.2) else (if hs_ib (((42 : Int32) + ((5 : Int32) * x2)) + x1) 1995 = true then hs_R scr (d + 1) 273 55 [some (.ref t0), some (.int x1), some (.int x2)] [.int (I (t0 + 5) (Int32.toNatClampNeg (((42 : Int32) + ((5 : Int32) * x2)) + x1)))] (S, I, L, R) else none)) := Eq.trans (r_zeq d273_31 rfl) (q_ite (Eq.trans (r_al_n d273_50 rfl) (Eq.trans (r_ic d273_51 kI_5) (r_cvE (as := [.int 5]) (r := []) d273_52 c273_322 ow265 o_t0.2.1 np265.symm rfl (hs_fitE mL265 (Nat.le_of_ble_eq_true rfl))))) (Eq.trans (r_al_n d273_34 rfl) (Eq.trans (r_getRe d273_35 f273_35 o_t0.2.1 (o_t0.2.2.2.2.2.2.2.2.2.2.1) (Nat.le_trans o_t0.1 (Nat.le_add_right _ _))) (Eq.trans (r_bp d273_38 kB_42) (Eq.trans (r_ic d273_40 kI_5) (Eq.trans (r_il_n d273_41 rfl) (Eq.trans (r_imul d273_42) (Eq.trans (r_iadd d273_43) (Eq.trans (r_il_n d273_44 rfl) (Eq.trans (r_iadd d273_45) (Eq.trans (r_iald d273_46 (o_t0.2.2.2.2.2.2.2.2.2.2.2.1)) (q_ite (Eq.trans (r_goto d273_47 rfl) (rfl)) rfl))))))))))))
theorem b273_55 {t0 : Nat} {x1 x2 s0 : Int32}  : hs_R scr d 273 55 [some (.ref t0), some (.int x1), some (.int x2)] [.int s0] (S, I, L, R) = some (some (.int s0), (S, I, L, R)) := r_ri d273_55 rt273
theorem e274 {t0 : Nat} {x1 : Int32} : hs_C scr d 274 [.ref t0, .int x1] h = hs_R scr d 274 0 [some (.ref t0), some (.int x1)] [] h := by rw [hs_C, mL274]; rfl
theorem b274_0 {t0 : Nat} {x1 : Int32} (o_t0 : ok11 S R t0) : hs_R scr (d + 1) 274 0 [some (.ref t0), some (.int x1)] [] (S, I, L, R) = ((hs_C scr d 223 [.long (Int32.toInt64 x1), .long 0, .long (Int32.toInt64 ((I (t0 + 5) 1) - 1))] (S, I, L, R)).bind fun o => hs_R scr (d + 1) 274 15 [some (.ref t0), some (.int x1)] (o.1.toList ++ []) o.2) := Eq.trans (r_il_n d274_0 rfl) (Eq.trans (r_i2l d274_1) (Eq.trans (r_lc d274_2 kL_0) (Eq.trans (r_al_n d274_3 rfl) (Eq.trans (r_getRe d274_4 f274_35 o_t0.2.1 (o_t0.2.2.2.2.2.2.2.2.2.2.1) (Nat.le_trans o_t0.1 (Nat.le_add_right _ _))) (Eq.trans (r_ic d274_7 kI_1) (Eq.trans ((r_ialdC d274_8 (o_t0.2.2.2.2.2.2.2.2.2.2.2.1) ib_1_1995 tn_1)) (Eq.trans (r_ic d274_9 kI_1) (Eq.trans (r_isub d274_10) (Eq.trans (r_i2l d274_11) (r_cs (as := [.long (Int32.toInt64 x1), .long 0, .long (Int32.toInt64 ((I (t0 + 5) 1) - 1))]) (r := []) d274_12 c274_95 np223.symm rfl (hs_fitE mL223 (Nat.le_of_ble_eq_true rfl))))))))))))
theorem b274_15 {t0 : Nat} {x1 s0 : Int32}  : hs_R scr d 274 15 [some (.ref t0), some (.int x1)] [.int s0] (S, I, L, R) = (if s0 = 0 ∨ s0 = 1 then some (some (.int s0), (S, I, L, R)) else none) := r_rz d274_15 rt274
theorem e275 {t0 : Nat} : hs_C scr d 275 [.ref t0] h = hs_R scr d 275 0 [some (.ref t0)] [] h := by rw [hs_C, mL275]; rfl
theorem b275_0 {t0 : Nat} (o_t0 : ok11 S R t0) : hs_R scr (d + 1) 275 0 [some (.ref t0)] [] (S, I, L, R) = (if ((hs_u (hs_u I t0 1 0) t0 0 0) (t0 + 5) 2) = 0 then ((hs_C scr d 265 [.ref t0, .int 8] (S, (hs_u (hs_u I t0 1 0) t0 0 0), L, R)).bind fun o => hs_R scr (d + 1) 275 25 [some (.ref t0)] (o.1.toList ++ []) o.2) else hs_R scr (d + 1) 275 35 [some (.ref t0)] [.int ((hs_u (hs_u I t0 1 0) t0 0 0) (t0 + 5) 58)] (S, (hs_u (hs_u I t0 1 0) t0 0 0), L, R)) := Eq.trans (r_al_n d275_0 rfl) (Eq.trans (r_ic d275_1 kI_0) (Eq.trans (r_putI d275_2 f275_60 o_t0.2.1) (Eq.trans (r_al_n d275_5 rfl) (Eq.trans (r_ic d275_6 kI_0) (Eq.trans (r_putI d275_7 f275_63 o_t0.2.1) (Eq.trans (r_al_n d275_10 rfl) (Eq.trans (r_getRe d275_11 f275_35 o_t0.2.1 (o_t0.2.2.2.2.2.2.2.2.2.2.1) (Nat.le_trans o_t0.1 (Nat.le_add_right _ _))) (Eq.trans (r_ic d275_14 kI_2) (Eq.trans ((r_ialdC d275_15 (o_t0.2.2.2.2.2.2.2.2.2.2.2.1) ib_2_1995 tn_2)) (Eq.trans (r_zne d275_16 rfl) (q_ite (Eq.trans (r_al_n d275_19 rfl) (Eq.trans (r_bp d275_20 kB_8) (r_cvE (as := [.int 8]) (r := []) d275_22 c275_322 ow265 o_t0.2.1 np265.symm rfl (hs_fitE mL265 (Nat.le_of_ble_eq_true rfl))))) (Eq.trans (r_al_n d275_28 rfl) (Eq.trans (r_getRe d275_29 f275_35 o_t0.2.1 (o_t0.2.2.2.2.2.2.2.2.2.2.1) (Nat.le_trans o_t0.1 (Nat.le_add_right _ _))) (Eq.trans (r_bp d275_32 kB_58) (Eq.trans ((r_ialdC d275_34 (o_t0.2.2.2.2.2.2.2.2.2.2.2.1) ib_58_1995 tn_58)) (rfl))))))))))))))))
theorem b275_25 {t0 : Nat} {s0 : Int32}  : hs_R scr d 275 25 [some (.ref t0)] [.int s0] (S, I, L, R) = hs_R scr d 275 35 [some (.ref t0)] [.int s0] (S, I, L, R) := Eq.trans (r_goto d275_25 rfl) (rfl)
theorem b275_35 {t0 : Nat} {s0 : Int32}  : hs_R scr d 275 35 [some (.ref t0)] [.int s0] (S, I, L, R) = some (some (.int s0), (S, I, L, R)) := r_ri d275_35 rt275
theorem e276 {t0 : Nat} {x1 : Int32} : hs_C scr d 276 [.ref t0, .int x1] h = hs_R scr d 276 0 [some (.ref t0), some (.int x1)] [] h := by rw [hs_C, mL276]; rfl
theorem b276_0 {t0 : Nat} {x1 : Int32} (o_t0 : ok11 S R t0) : hs_R scr (d + 1) 276 0 [some (.ref t0), some (.int x1)] [] (S, I, L, R) = ((hs_C scr d 223 [.long (Int32.toInt64 x1), .long 0, .long (Int32.toInt64 (((hs_u (hs_u I t0 1 0) t0 0 0) (t0 + 5) 2) - 1))] (S, (hs_u (hs_u I t0 1 0) t0 0 0), L, R)).bind fun o => hs_R scr (d + 1) 276 25 [some (.ref t0), some (.int x1)] (o.1.toList ++ []) o.2) := Eq.trans (r_al_n d276_0 rfl) (Eq.trans (r_ic d276_1 kI_0) (Eq.trans (r_putI d276_2 f276_60 o_t0.2.1) (Eq.trans (r_al_n d276_5 rfl) (Eq.trans (r_ic d276_6 kI_0) (Eq.trans (r_putI d276_7 f276_63 o_t0.2.1) (Eq.trans (r_il_n d276_10 rfl) (Eq.trans (r_i2l d276_11) (Eq.trans (r_lc d276_12 kL_0) (Eq.trans (r_al_n d276_13 rfl) (Eq.trans (r_getRe d276_14 f276_35 o_t0.2.1 (o_t0.2.2.2.2.2.2.2.2.2.2.1) (Nat.le_trans o_t0.1 (Nat.le_add_right _ _))) (Eq.trans (r_ic d276_17 kI_2) (Eq.trans ((r_ialdC d276_18 (o_t0.2.2.2.2.2.2.2.2.2.2.2.1) ib_2_1995 tn_2)) (Eq.trans (r_ic d276_19 kI_1) (Eq.trans (r_isub d276_20) (Eq.trans (r_i2l d276_21) (r_cs (as := [.long (Int32.toInt64 x1), .long 0, .long (Int32.toInt64 (((hs_u (hs_u I t0 1 0) t0 0 0) (t0 + 5) 2) - 1))]) (r := []) d276_22 c276_95 np223.symm rfl (hs_fitE mL223 (Nat.le_of_ble_eq_true rfl))))))))))))))))))
theorem b276_25 {t0 : Nat} {x1 s0 : Int32} (o_t0 : ok11 S R t0) : hs_R scr (d + 1) 276 25 [some (.ref t0), some (.int x1)] [.int s0] (S, I, L, R) = (if s0 = 0 then ((hs_C scr d 265 [.ref t0, .int 2] (S, I, L, R)).bind fun o => hs_R scr (d + 1) 276 45 [some (.ref t0), some (.int x1)] (o.1.toList ++ []) o.2) else (if hs_ib ((52 : Int32) + x1) 1995 = true then hs_R scr (d + 1) 276 45 [some (.ref t0), some (.int x1)] [.int (I (t0 + 5) (Int32.toNatClampNeg ((52 : Int32) + x1)))] (S, I, L, R) else none)) := Eq.trans (r_zeq d276_25 rfl) (q_ite (Eq.trans (r_al_n d276_40 rfl) (Eq.trans (r_ic d276_41 kI_2) (r_cvE (as := [.int 2]) (r := []) d276_42 c276_322 ow265 o_t0.2.1 np265.symm rfl (hs_fitE mL265 (Nat.le_of_ble_eq_true rfl))))) (Eq.trans (r_al_n d276_28 rfl) (Eq.trans (r_getRe d276_29 f276_35 o_t0.2.1 (o_t0.2.2.2.2.2.2.2.2.2.2.1) (Nat.le_trans o_t0.1 (Nat.le_add_right _ _))) (Eq.trans (r_bp d276_32 kB_52) (Eq.trans (r_il_n d276_34 rfl) (Eq.trans (r_iadd d276_35) (Eq.trans (r_iald d276_36 (o_t0.2.2.2.2.2.2.2.2.2.2.2.1)) (q_ite (Eq.trans (r_goto d276_37 rfl) (rfl)) rfl))))))))
theorem b276_45 {t0 : Nat} {x1 s0 : Int32}  : hs_R scr d 276 45 [some (.ref t0), some (.int x1)] [.int s0] (S, I, L, R) = some (some (.int s0), (S, I, L, R)) := r_ri d276_45 rt276
theorem e277 {t0 : Nat} {x1 : Int32} {x2 : Int32} : hs_C scr d 277 [.ref t0, .int x1, .int x2] h = hs_R scr d 277 0 [some (.ref t0), some (.int x1), some (.int x2)] [] h := by rw [hs_C, mL277]; rfl
theorem b277_0 {t0 : Nat} {x1 x2 : Int32} (o_t0 : ok11 S R t0) : hs_R scr (d + 1) 277 0 [some (.ref t0), some (.int x1), some (.int x2)] [] (S, I, L, R) = ((hs_C scr d 278 [.ref t0, .int x1] (S, (hs_u (hs_u I t0 1 0) t0 0 0), L, R)).bind fun o => hs_R scr (d + 1) 277 15 [some (.ref t0), some (.int x1), some (.int x2)] (o.1.toList ++ []) o.2) := Eq.trans (r_al_n d277_0 rfl) (Eq.trans (r_ic d277_1 kI_0) (Eq.trans (r_putI d277_2 f277_60 o_t0.2.1) (Eq.trans (r_al_n d277_5 rfl) (Eq.trans (r_ic d277_6 kI_0) (Eq.trans (r_putI d277_7 f277_63 o_t0.2.1) (Eq.trans (r_al_n d277_10 rfl) (Eq.trans (r_il_n d277_11 rfl) (r_cvE (as := [.int x1]) (r := []) d277_12 c277_346 ow278 o_t0.2.1 np278.symm rfl (hs_fitE mL278 (Nat.le_of_ble_eq_true rfl))))))))))
theorem b277_15 {t0 : Nat} {x1 x2 s0 : Int32} (o_t0 : ok11 S R t0) : hs_R scr (d + 1) 277 15 [some (.ref t0), some (.int x1), some (.int x2)] [.int s0] (S, I, L, R) = (if s0 = 0 then hs_R scr (d + 1) 277 35 [some (.ref t0), some (.int x1), some (.int x2)] [] (S, I, L, R) else ((hs_C scr d 272 [.ref t0, .int x2] (S, I, L, R)).bind fun o => hs_R scr (d + 1) 277 23 [some (.ref t0), some (.int x1), some (.int x2)] (o.1.toList ++ []) o.2)) := Eq.trans (r_zeq d277_15 rfl) (q_ite (rfl) (Eq.trans (r_al_n d277_18 rfl) (Eq.trans (r_il_n d277_19 rfl) (r_cvE (as := [.int x2]) (r := []) d277_20 c277_340 ow272 o_t0.2.1 np272.symm rfl (hs_fitE mL272 (Nat.le_of_ble_eq_true rfl))))))
theorem b277_23 {t0 : Nat} {x1 x2 s0 : Int32} (o_t0 : ok11 S R t0) : hs_R scr (d + 1) 277 23 [some (.ref t0), some (.int x1), some (.int x2)] [.int s0] (S, I, L, R) = (if s0 = 0 then hs_R scr (d + 1) 277 35 [some (.ref t0), some (.int x1), some (.int x2)] [] (S, I, L, R) else ((hs_C scr d 279 [.ref t0, .int x1, .int x2] (S, I, L, R)).bind fun o => hs_R scr (d + 1) 277 32 [some (.ref t0), some (.int x1), some (.int x2)] (o.1.toList ++ []) o.2)) := Eq.trans (r_zeq d277_23 rfl) (q_ite (rfl) (Eq.trans (r_al_n d277_26 rfl) (Eq.trans (r_il_n d277_27 rfl) (Eq.trans (r_il_n d277_28 rfl) (r_cvE (as := [.int x1, .int x2]) (r := []) d277_29 c277_349 ow279 o_t0.2.1 np279.symm rfl (hs_fitE mL279 (Nat.le_of_ble_eq_true rfl)))))))
theorem b277_32 {t0 : Nat} {x1 x2 s0 : Int32}  : hs_R scr d 277 32 [some (.ref t0), some (.int x1), some (.int x2)] [.int s0] (S, I, L, R) = hs_R scr d 277 40 [some (.ref t0), some (.int x1), some (.int x2)] [.int s0] (S, I, L, R) := Eq.trans (r_goto d277_32 rfl) (rfl)
theorem b277_35 {t0 : Nat} {x1 x2 : Int32} (o_t0 : ok11 S R t0) : hs_R scr (d + 1) 277 35 [some (.ref t0), some (.int x1), some (.int x2)] [] (S, I, L, R) = ((hs_C scr d 265 [.ref t0, .int 2] (S, I, L, R)).bind fun o => hs_R scr (d + 1) 277 40 [some (.ref t0), some (.int x1), some (.int x2)] (o.1.toList ++ []) o.2) := Eq.trans (r_al_n d277_35 rfl) (Eq.trans (r_ic d277_36 kI_2) (r_cvE (as := [.int 2]) (r := []) d277_37 c277_322 ow265 o_t0.2.1 np265.symm rfl (hs_fitE mL265 (Nat.le_of_ble_eq_true rfl))))
theorem b277_40 {t0 : Nat} {x1 x2 s0 : Int32}  : hs_R scr d 277 40 [some (.ref t0), some (.int x1), some (.int x2)] [.int s0] (S, I, L, R) = some (some (.int s0), (S, I, L, R)) := r_ri d277_40 rt277
theorem e278 {t0 : Nat} {x1 : Int32} : hs_C scr d 278 [.ref t0, .int x1] h = hs_R scr d 278 0 [some (.ref t0), some (.int x1)] [] h := by rw [hs_C, mL278]; rfl
theorem b278_0 {t0 : Nat} {x1 : Int32} (o_t0 : ok11 S R t0) : hs_R scr (d + 1) 278 0 [some (.ref t0), some (.int x1)] [] (S, I, L, R) = ((hs_C scr d 223 [.long (Int32.toInt64 x1), .long 0, .long (Int32.toInt64 ((I (t0 + 5) 3) - 1))] (S, I, L, R)).bind fun o => hs_R scr (d + 1) 278 15 [some (.ref t0), some (.int x1)] (o.1.toList ++ []) o.2) := Eq.trans (r_il_n d278_0 rfl) (Eq.trans (r_i2l d278_1) (Eq.trans (r_lc d278_2 kL_0) (Eq.trans (r_al_n d278_3 rfl) (Eq.trans (r_getRe d278_4 f278_35 o_t0.2.1 (o_t0.2.2.2.2.2.2.2.2.2.2.1) (Nat.le_trans o_t0.1 (Nat.le_add_right _ _))) (Eq.trans (r_ic d278_7 kI_3) (Eq.trans ((r_ialdC d278_8 (o_t0.2.2.2.2.2.2.2.2.2.2.2.1) ib_3_1995 tn_3)) (Eq.trans (r_ic d278_9 kI_1) (Eq.trans (r_isub d278_10) (Eq.trans (r_i2l d278_11) (r_cs (as := [.long (Int32.toInt64 x1), .long 0, .long (Int32.toInt64 ((I (t0 + 5) 3) - 1))]) (r := []) d278_12 c278_95 np223.symm rfl (hs_fitE mL223 (Nat.le_of_ble_eq_true rfl))))))))))))
theorem b278_15 {t0 : Nat} {x1 s0 : Int32}  : hs_R scr d 278 15 [some (.ref t0), some (.int x1)] [.int s0] (S, I, L, R) = (if s0 = 0 ∨ s0 = 1 then some (some (.int s0), (S, I, L, R)) else none) := r_rz d278_15 rt278
theorem e279 {t0 : Nat} {x1 : Int32} {x2 : Int32} : hs_C scr d 279 [.ref t0, .int x1, .int x2] h = hs_R scr d 279 0 [some (.ref t0), some (.int x1), some (.int x2)] [] h := by rw [hs_C, mL279]; rfl
theorem b279_0 {t0 : Nat} {x1 x2 : Int32} (o_t0 : ok11 S R t0) : hs_R scr d 279 0 [some (.ref t0), some (.int x1), some (.int x2)] [] (S, I, L, R) = (if hs_ib (((59 : Int32) + ((8 : Int32) * x1)) + x2) 1995 = true then some (some (.int (I (t0 + 5) (Int32.toNatClampNeg (((59 : Int32) + ((8 : Int32) * x1)) + x2)))), (S, I, L, R)) else none) := Eq.trans (r_al_n d279_0 rfl) (Eq.trans (r_getRe d279_1 f279_35 o_t0.2.1 (o_t0.2.2.2.2.2.2.2.2.2.2.1) (Nat.le_trans o_t0.1 (Nat.le_add_right _ _))) (Eq.trans (r_bp d279_4 kB_59) (Eq.trans (r_bp d279_6 kB_8) (Eq.trans (r_il_n d279_8 rfl) (Eq.trans (r_imul d279_9) (Eq.trans (r_iadd d279_10) (Eq.trans (r_il_n d279_11 rfl) (Eq.trans (r_iadd d279_12) (Eq.trans (r_iald d279_13 (o_t0.2.2.2.2.2.2.2.2.2.2.2.1)) (q_ite (r_ri d279_14 rt279) rfl))))))))))
theorem e280 {t0 : Nat} {x1 : Int32} {x2 : Int32} : hs_C scr d 280 [.ref t0, .int x1, .int x2] h = hs_R scr d 280 0 [some (.ref t0), some (.int x1), some (.int x2)] [] h := by rw [hs_C, mL280]; rfl
theorem b280_0 {t0 : Nat} {x1 x2 : Int32} (o_t0 : ok11 S R t0) : hs_R scr (d + 1) 280 0 [some (.ref t0), some (.int x1), some (.int x2)] [] (S, I, L, R) = ((hs_C scr d 223 [.long (Int32.toInt64 x1), .long 0, .long (Int32.toInt64 (((hs_u (hs_u I t0 1 0) t0 0 0) (t0 + 5) 5) - 1))] (S, (hs_u (hs_u I t0 1 0) t0 0 0), L, R)).bind fun o => hs_R scr (d + 1) 280 25 [some (.ref t0), some (.int x1), some (.int x2)] (o.1.toList ++ []) o.2) := Eq.trans (r_al_n d280_0 rfl) (Eq.trans (r_ic d280_1 kI_0) (Eq.trans (r_putI d280_2 f280_60 o_t0.2.1) (Eq.trans (r_al_n d280_5 rfl) (Eq.trans (r_ic d280_6 kI_0) (Eq.trans (r_putI d280_7 f280_63 o_t0.2.1) (Eq.trans (r_il_n d280_10 rfl) (Eq.trans (r_i2l d280_11) (Eq.trans (r_lc d280_12 kL_0) (Eq.trans (r_al_n d280_13 rfl) (Eq.trans (r_getRe d280_14 f280_35 o_t0.2.1 (o_t0.2.2.2.2.2.2.2.2.2.2.1) (Nat.le_trans o_t0.1 (Nat.le_add_right _ _))) (Eq.trans (r_ic d280_17 kI_5) (Eq.trans ((r_ialdC d280_18 (o_t0.2.2.2.2.2.2.2.2.2.2.2.1) ib_5_1995 tn_5)) (Eq.trans (r_ic d280_19 kI_1) (Eq.trans (r_isub d280_20) (Eq.trans (r_i2l d280_21) (r_cs (as := [.long (Int32.toInt64 x1), .long 0, .long (Int32.toInt64 (((hs_u (hs_u I t0 1 0) t0 0 0) (t0 + 5) 5) - 1))]) (r := []) d280_22 c280_95 np223.symm rfl (hs_fitE mL223 (Nat.le_of_ble_eq_true rfl))))))))))))))))))
theorem b280_25 {t0 : Nat} {x1 x2 s0 : Int32} (o_t0 : ok11 S R t0) : hs_R scr (d + 1) 280 25 [some (.ref t0), some (.int x1), some (.int x2)] [.int s0] (S, I, L, R) = (if s0 = 0 then ((hs_C scr d 265 [.ref t0, .int 2] (S, I, L, R)).bind fun o => hs_R scr (d + 1) 280 33 [some (.ref t0), some (.int x1), some (.int x2)] (o.1.toList ++ []) o.2) else ((hs_C scr d 223 [.long (Int32.toInt64 x2), .long 0, .long 1] (S, I, L, R)).bind fun o => hs_R scr (d + 1) 280 41 [some (.ref t0), some (.int x1), some (.int x2)] (o.1.toList ++ []) o.2)) := Eq.trans (r_zne d280_25 rfl) (q_ite (Eq.trans (r_al_n d280_28 rfl) (Eq.trans (r_ic d280_29 kI_2) (r_cvE (as := [.int 2]) (r := []) d280_30 c280_322 ow265 o_t0.2.1 np265.symm rfl (hs_fitE mL265 (Nat.le_of_ble_eq_true rfl))))) (Eq.trans (r_il_n d280_34 rfl) (Eq.trans (r_i2l d280_35) (Eq.trans (r_lc d280_36 kL_0) (Eq.trans (r_lc d280_37 kL_1) (r_cs (as := [.long (Int32.toInt64 x2), .long 0, .long 1]) (r := []) d280_38 c280_95 np223.symm rfl (hs_fitE mL223 (Nat.le_of_ble_eq_true rfl))))))))
theorem b280_33 {t0 : Nat} {x1 x2 s0 : Int32}  : hs_R scr d 280 33 [some (.ref t0), some (.int x1), some (.int x2)] [.int s0] (S, I, L, R) = some (some (.int s0), (S, I, L, R)) := r_ri d280_33 rt280
theorem b280_41 {t0 : Nat} {x1 x2 s0 : Int32} (o_t0 : ok11 S R t0) : hs_R scr (d + 1) 280 41 [some (.ref t0), some (.int x1), some (.int x2)] [.int s0] (S, I, L, R) = (if s0 = 0 then ((hs_C scr d 265 [.ref t0, .int 5] (S, I, L, R)).bind fun o => hs_R scr (d + 1) 280 66 [some (.ref t0), some (.int x1), some (.int x2)] (o.1.toList ++ []) o.2) else (if hs_ib (((107 : Int32) + ((10 : Int32) * x2)) + x1) 1995 = true then hs_R scr (d + 1) 280 66 [some (.ref t0), some (.int x1), some (.int x2)] [.int (I (t0 + 5) (Int32.toNatClampNeg (((107 : Int32) + ((10 : Int32) * x2)) + x1)))] (S, I, L, R) else none)) := Eq.trans (r_zeq d280_41 rfl) (q_ite (Eq.trans (r_al_n d280_61 rfl) (Eq.trans (r_ic d280_62 kI_5) (r_cvE (as := [.int 5]) (r := []) d280_63 c280_322 ow265 o_t0.2.1 np265.symm rfl (hs_fitE mL265 (Nat.le_of_ble_eq_true rfl))))) (Eq.trans (r_al_n d280_44 rfl) (Eq.trans (r_getRe d280_45 f280_35 o_t0.2.1 (o_t0.2.2.2.2.2.2.2.2.2.2.1) (Nat.le_trans o_t0.1 (Nat.le_add_right _ _))) (Eq.trans (r_bp d280_48 kB_107) (Eq.trans (r_bp d280_50 kB_10) (Eq.trans (r_il_n d280_52 rfl) (Eq.trans (r_imul d280_53) (Eq.trans (r_iadd d280_54) (Eq.trans (r_il_n d280_55 rfl) (Eq.trans (r_iadd d280_56) (Eq.trans (r_iald d280_57 (o_t0.2.2.2.2.2.2.2.2.2.2.2.1)) (q_ite (Eq.trans (r_goto d280_58 rfl) (rfl)) rfl))))))))))))
theorem b280_66 {t0 : Nat} {x1 x2 s0 : Int32}  : hs_R scr d 280 66 [some (.ref t0), some (.int x1), some (.int x2)] [.int s0] (S, I, L, R) = some (some (.int s0), (S, I, L, R)) := r_ri d280_66 rt280
theorem e281 {t0 : Nat} {x1 : Int32} : hs_C scr d 281 [.ref t0, .int x1] h = hs_R scr d 281 0 [some (.ref t0), some (.int x1), none] [] h := by rw [hs_C, mL281]; rfl
theorem b281_0 {t0 : Nat} {x1 : Int32} (o_t0 : ok11 S R t0) : hs_R scr (d + 1) 281 0 [some (.ref t0), some (.int x1), none] [] (S, I, L, R) = ((hs_C scr d 282 [.ref t0, .int x1] (S, (hs_u (hs_u I t0 1 0) t0 0 0), L, R)).bind fun o => hs_R scr (d + 1) 281 15 [some (.ref t0), some (.int x1), none] (o.1.toList ++ []) o.2) := Eq.trans (r_al_n d281_0 rfl) (Eq.trans (r_ic d281_1 kI_0) (Eq.trans (r_putI d281_2 f281_60 o_t0.2.1) (Eq.trans (r_al_n d281_5 rfl) (Eq.trans (r_ic d281_6 kI_0) (Eq.trans (r_putI d281_7 f281_63 o_t0.2.1) (Eq.trans (r_al_n d281_10 rfl) (Eq.trans (r_il_n d281_11 rfl) (r_cvE (as := [.int x1]) (r := []) d281_12 c281_352 ow282 o_t0.2.1 np282.symm rfl (hs_fitE mL282 (Nat.le_of_ble_eq_true rfl))))))))))
theorem b281_15 {t0 : Nat} {x1 s0 : Int32} (o_t0 : ok11 S R t0) : hs_R scr (d + 1) 281 15 [some (.ref t0), some (.int x1), none] [.int s0] (S, I, L, R) = (if s0 = 0 then ((hs_C scr d 265 [.ref t0, .int 1] (S, I, L, R)).bind fun o => hs_R scr (d + 1) 281 23 [some (.ref t0), some (.int x1), none] (o.1.toList ++ []) o.2) else (if hs_ib x1 4 = true then (if (0 : Int32) ≤ (I (t0 + 2) (Int32.toNatClampNeg x1)) then (if hs_ib x1 4 = true then (if (I (t0 + 5) 0) ≤ (I (t0 + 2) (Int32.toNatClampNeg x1)) then hs_R scr (d + 1) 281 62 [some (.ref t0), some (.int x1), some (.int 0)] [] (S, I, L, R) else ((hs_C scr d 265 [.ref t0, .int 4] (S, I, L, R)).bind fun o => hs_R scr (d + 1) 281 59 [some (.ref t0), some (.int x1), none] (o.1.toList ++ []) o.2)) else none) else ((hs_C scr d 265 [.ref t0, .int 3] (S, I, L, R)).bind fun o => hs_R scr (d + 1) 281 38 [some (.ref t0), some (.int x1), none] (o.1.toList ++ []) o.2)) else none)) := Eq.trans (r_zne d281_15 rfl) (q_ite (Eq.trans (r_al_n d281_18 rfl) (Eq.trans (r_ic d281_19 kI_1) (r_cvE (as := [.int 1]) (r := []) d281_20 c281_322 ow265 o_t0.2.1 np265.symm rfl (hs_fitE mL265 (Nat.le_of_ble_eq_true rfl))))) (Eq.trans (r_al_n d281_24 rfl) (Eq.trans (r_getRe d281_25 f281_17 o_t0.2.1 (o_t0.2.2.2.2.1) (Nat.le_trans o_t0.1 (Nat.le_add_right _ _))) (Eq.trans (r_il_n d281_28 rfl) (Eq.trans (r_iald d281_29 (o_t0.2.2.2.2.2.1)) (q_ite (Eq.trans (r_zge d281_30 rfl) (q_ite (Eq.trans (r_al_n d281_39 rfl) (Eq.trans (r_getRe d281_40 f281_17 o_t0.2.1 (o_t0.2.2.2.2.1) (Nat.le_trans o_t0.1 (Nat.le_add_right _ _))) (Eq.trans (r_il_n d281_43 rfl) (Eq.trans (r_iald d281_44 (o_t0.2.2.2.2.2.1)) (q_ite (Eq.trans (r_al_n d281_45 rfl) (Eq.trans (r_getRe d281_46 f281_35 o_t0.2.1 (o_t0.2.2.2.2.2.2.2.2.2.2.1) (Nat.le_trans o_t0.1 (Nat.le_add_right _ _))) (Eq.trans (r_ic d281_49 kI_0) (Eq.trans ((r_ialdC d281_50 (o_t0.2.2.2.2.2.2.2.2.2.2.2.1) ib_0_1995 tn_0)) (Eq.trans (r_cge d281_51 rfl) (q_ite (Eq.trans (r_ic d281_60 kI_0) (Eq.trans (r_is_n (loc' := [some (.ref t0), some (.int x1), some (.int 0)]) d281_61 rfl) (rfl))) (Eq.trans (r_al_n d281_54 rfl) (Eq.trans (r_ic d281_55 kI_4) (r_cvE (as := [.int 4]) (r := []) d281_56 c281_322 ow265 o_t0.2.1 np265.symm rfl (hs_fitE mL265 (Nat.le_of_ble_eq_true rfl))))))))))) rfl))))) (Eq.trans (r_al_n d281_33 rfl) (Eq.trans (r_ic d281_34 kI_3) (r_cvE (as := [.int 3]) (r := []) d281_35 c281_322 ow265 o_t0.2.1 np265.symm rfl (hs_fitE mL265 (Nat.le_of_ble_eq_true rfl))))))) rfl))))))
theorem b281_23 {t0 : Nat} {x1 s0 : Int32}  : hs_R scr d 281 23 [some (.ref t0), some (.int x1), none] [.int s0] (S, I, L, R) = some (some (.int s0), (S, I, L, R)) := r_ri d281_23 rt281
theorem b281_38 {t0 : Nat} {x1 s0 : Int32}  : hs_R scr d 281 38 [some (.ref t0), some (.int x1), none] [.int s0] (S, I, L, R) = some (some (.int s0), (S, I, L, R)) := r_ri d281_38 rt281
theorem b281_59 {t0 : Nat} {x1 s0 : Int32}  : hs_R scr d 281 59 [some (.ref t0), some (.int x1), none] [.int s0] (S, I, L, R) = some (some (.int s0), (S, I, L, R)) := r_ri d281_59 rt281
theorem b281_62 {t0 : Nat} {x1 x2 : Int32} (o_t0 : ok11 S R t0) : hs_R scr (d + 1) 281 62 [some (.ref t0), some (.int x1), some (.int x2)] [] (S, I, L, R) = (if (I (t0 + 5) 0) ≤ x2 then some (some (.int (I (t0 + 5) 0)), (S, I, L, R)) else (if hs_ib ((10 : Int32) + x2) 1995 = true then ((hs_C scr d 198 [.ref t0, .int x1, .int x2, .long (Int32.toInt64 (I (t0 + 5) (Int32.toNatClampNeg ((10 : Int32) + x2))))] (S, I, L, R)).bind fun o => hs_R scr (d + 1) 281 88 [some (.ref t0), some (.int x1), some (.int x2)] (o.1.toList ++ []) o.2) else none)) := Eq.trans (r_il_n d281_62 rfl) (Eq.trans (r_al_n d281_63 rfl) (Eq.trans (r_getRe d281_64 f281_35 o_t0.2.1 (o_t0.2.2.2.2.2.2.2.2.2.2.1) (Nat.le_trans o_t0.1 (Nat.le_add_right _ _))) (Eq.trans (r_ic d281_67 kI_0) (Eq.trans ((r_ialdC d281_68 (o_t0.2.2.2.2.2.2.2.2.2.2.2.1) ib_0_1995 tn_0)) (Eq.trans (r_cge d281_69 rfl) (q_ite (Eq.trans (r_al_n d281_95 rfl) (Eq.trans (r_getRe d281_96 f281_35 o_t0.2.1 (o_t0.2.2.2.2.2.2.2.2.2.2.1) (Nat.le_trans o_t0.1 (Nat.le_add_right _ _))) (Eq.trans (r_ic d281_99 kI_0) (Eq.trans ((r_ialdC d281_100 (o_t0.2.2.2.2.2.2.2.2.2.2.2.1) ib_0_1995 tn_0)) (r_ri d281_101 rt281))))) (Eq.trans (r_al_n d281_72 rfl) (Eq.trans (r_il_n d281_73 rfl) (Eq.trans (r_il_n d281_74 rfl) (Eq.trans (r_al_n d281_75 rfl) (Eq.trans (r_getRe d281_76 f281_35 o_t0.2.1 (o_t0.2.2.2.2.2.2.2.2.2.2.1) (Nat.le_trans o_t0.1 (Nat.le_add_right _ _))) (Eq.trans (r_bp d281_79 kB_10) (Eq.trans (r_il_n d281_81 rfl) (Eq.trans (r_iadd d281_82) (Eq.trans (r_iald d281_83 (o_t0.2.2.2.2.2.2.2.2.2.2.2.1)) (q_ite (Eq.trans (r_i2l d281_84) (r_cvE (as := [.int x1, .int x2, .long (Int32.toInt64 (I (t0 + 5) (Int32.toNatClampNeg ((10 : Int32) + x2))))]) (r := []) d281_85 c281_355 ow198 o_t0.2.1 np198.symm rfl (hs_fitE mL198 (Nat.le_of_ble_eq_true rfl)))) rfl))))))))))))))))
theorem b281_88 {t0 : Nat} {x1 x2 s0 : Int32}  : hs_R scr d 281 88 [some (.ref t0), some (.int x1), some (.int x2)] [.int s0] (S, I, L, R) = hs_R scr d 281 62 [some (.ref t0), some (.int x1), some (.int (x2 + 1))] [] (S, I, L, R) := Eq.trans (r_pop d281_88 rfl) (Eq.trans (r_inc (loc' := [some (.ref t0), some (.int x1), some (.int (x2 + 1))]) d281_89 kI_1 rfl rfl) (Eq.trans (r_goto d281_92 rfl) (rfl)))
theorem e282 {t0 : Nat} {x1 : Int32} : hs_C scr d 282 [.ref t0, .int x1] h = hs_R scr d 282 0 [some (.ref t0), some (.int x1)] [] h := by rw [hs_C, mL282]; rfl
theorem b282_0 {t0 : Nat} {x1 : Int32}  : hs_R scr (d + 1) 282 0 [some (.ref t0), some (.int x1)] [] (S, I, L, R) = ((hs_C scr d 223 [.long (Int32.toInt64 x1), .long 0, .long 3] (S, I, L, R)).bind fun o => hs_R scr (d + 1) 282 9 [some (.ref t0), some (.int x1)] (o.1.toList ++ []) o.2) := Eq.trans (r_il_n d282_0 rfl) (Eq.trans (r_i2l d282_1) (Eq.trans (r_lc d282_2 kL_0) (Eq.trans (r_ldc2 d282_3 cl282_93) (r_cs (as := [.long (Int32.toInt64 x1), .long 0, .long 3]) (r := []) d282_6 c282_95 np223.symm rfl (hs_fitE mL223 (Nat.le_of_ble_eq_true rfl))))))
theorem b282_9 {t0 : Nat} {x1 s0 : Int32}  : hs_R scr d 282 9 [some (.ref t0), some (.int x1)] [.int s0] (S, I, L, R) = (if s0 = 0 ∨ s0 = 1 then some (some (.int s0), (S, I, L, R)) else none) := r_rz d282_9 rt282
theorem e283 {t0 : Nat} {x1 : Int32} : hs_C scr d 283 [.ref t0, .int x1] h = hs_R scr d 283 0 [some (.ref t0), some (.int x1), none] [] h := by rw [hs_C, mL283]; rfl
theorem b283_0 {t0 : Nat} {x1 : Int32} (o_t0 : ok11 S R t0) : hs_R scr (d + 1) 283 0 [some (.ref t0), some (.int x1), none] [] (S, I, L, R) = ((hs_C scr d 223 [.long (Int32.toInt64 x1), .long 1, .long 99] (S, (hs_u (hs_u I t0 1 0) t0 0 0), L, R)).bind fun o => hs_R scr (d + 1) 283 19 [some (.ref t0), some (.int x1), none] (o.1.toList ++ []) o.2) := Eq.trans (r_al_n d283_0 rfl) (Eq.trans (r_ic d283_1 kI_0) (Eq.trans (r_putI d283_2 f283_60 o_t0.2.1) (Eq.trans (r_al_n d283_5 rfl) (Eq.trans (r_ic d283_6 kI_0) (Eq.trans (r_putI d283_7 f283_63 o_t0.2.1) (Eq.trans (r_il_n d283_10 rfl) (Eq.trans (r_i2l d283_11) (Eq.trans (r_lc d283_12 kL_1) (Eq.trans (r_ldc2 d283_13 cl283_359) (r_cs (as := [.long (Int32.toInt64 x1), .long 1, .long 99]) (r := []) d283_16 c283_95 np223.symm rfl (hs_fitE mL223 (Nat.le_of_ble_eq_true rfl))))))))))))
theorem b283_19 {t0 : Nat} {x1 s0 : Int32} (o_t0 : ok11 S R t0) : hs_R scr (d + 1) 283 19 [some (.ref t0), some (.int x1), none] [.int s0] (S, I, L, R) = (if s0 = 0 then ((hs_C scr d 265 [.ref t0, .int 5] (S, I, L, R)).bind fun o => hs_R scr (d + 1) 283 27 [some (.ref t0), some (.int x1), none] (o.1.toList ++ []) o.2) else (if ((I (t0 + 5) 8) + x1) ≤ 9999 then hs_R scr (d + 1) 283 52 [some (.ref t0), some (.int x1), some (.int 0)] [] (S, I, L, R) else ((hs_C scr d 265 [.ref t0, .int 7] (S, I, L, R)).bind fun o => hs_R scr (d + 1) 283 49 [some (.ref t0), some (.int x1), none] (o.1.toList ++ []) o.2))) := Eq.trans (r_zne d283_19 rfl) (q_ite (Eq.trans (r_al_n d283_22 rfl) (Eq.trans (r_ic d283_23 kI_5) (r_cvE (as := [.int 5]) (r := []) d283_24 c283_322 ow265 o_t0.2.1 np265.symm rfl (hs_fitE mL265 (Nat.le_of_ble_eq_true rfl))))) (Eq.trans (r_al_n d283_28 rfl) (Eq.trans (r_getRe d283_29 f283_35 o_t0.2.1 (o_t0.2.2.2.2.2.2.2.2.2.2.1) (Nat.le_trans o_t0.1 (Nat.le_add_right _ _))) (Eq.trans (r_bp d283_32 kB_8) (Eq.trans ((r_ialdC d283_34 (o_t0.2.2.2.2.2.2.2.2.2.2.2.1) ib_8_1995 tn_8)) (Eq.trans (r_il_n d283_35 rfl) (Eq.trans (r_iadd d283_36) (Eq.trans (r_sp d283_37 kS_9999) (Eq.trans (r_cle d283_40 rfl) (q_ite (Eq.trans (r_ic d283_50 kI_0) (Eq.trans (r_is_n (loc' := [some (.ref t0), some (.int x1), some (.int 0)]) d283_51 rfl) (rfl))) (Eq.trans (r_al_n d283_43 rfl) (Eq.trans (r_bp d283_44 kB_7) (r_cvE (as := [.int 7]) (r := []) d283_46 c283_322 ow265 o_t0.2.1 np265.symm rfl (hs_fitE mL265 (Nat.le_of_ble_eq_true rfl)))))))))))))))
theorem b283_27 {t0 : Nat} {x1 s0 : Int32}  : hs_R scr d 283 27 [some (.ref t0), some (.int x1), none] [.int s0] (S, I, L, R) = some (some (.int s0), (S, I, L, R)) := r_ri d283_27 rt283
theorem b283_49 {t0 : Nat} {x1 s0 : Int32}  : hs_R scr d 283 49 [some (.ref t0), some (.int x1), none] [.int s0] (S, I, L, R) = some (some (.int s0), (S, I, L, R)) := r_ri d283_49 rt283
theorem b283_52 {t0 : Nat} {x1 x2 : Int32} (o_t0 : ok11 S R t0) : hs_R scr (d + 1) 283 52 [some (.ref t0), some (.int x1), some (.int x2)] [] (S, I, L, R) = (if x1 ≤ x2 then ((hs_C scr d 269 [.ref t0, .int 0, .int (I (t0 + 5) 0)] (S, I, L, R)).bind fun o => hs_R scr (d + 1) 283 78 [some (.ref t0), some (.int x1), some (.int x2)] (o.1.toList ++ []) o.2) else ((hs_C scr d 284 [.ref t0] (S, I, L, R)).bind fun o => hs_R scr (d + 1) 283 61 [some (.ref t0), some (.int x1), some (.int x2)] (o.1.toList ++ []) o.2)) := Eq.trans (r_il_n d283_52 rfl) (Eq.trans (r_il_n d283_53 rfl) (Eq.trans (r_cge d283_54 rfl) (q_ite (Eq.trans (r_al_n d283_67 rfl) (Eq.trans (r_ic d283_68 kI_0) (Eq.trans (r_al_n d283_69 rfl) (Eq.trans (r_getRe d283_70 f283_35 o_t0.2.1 (o_t0.2.2.2.2.2.2.2.2.2.2.1) (Nat.le_trans o_t0.1 (Nat.le_add_right _ _))) (Eq.trans (r_ic d283_73 kI_0) (Eq.trans ((r_ialdC d283_74 (o_t0.2.2.2.2.2.2.2.2.2.2.2.1) ib_0_1995 tn_0)) (r_cvE (as := [.int 0, .int (I (t0 + 5) 0)]) (r := []) d283_75 c283_334 ow269 o_t0.2.1 np269.symm rfl (hs_fitE mL269 (Nat.le_of_ble_eq_true rfl))))))))) (Eq.trans (r_al_n d283_57 rfl) (r_cvE (as := []) (r := []) d283_58 c283_361 ow284 o_t0.2.1 np284.symm rfl (hs_fitE mL284 (Nat.le_of_ble_eq_true rfl)))))))
theorem b283_61 {t0 : Nat} {x1 x2 : Int32}  : hs_R scr d 283 61 [some (.ref t0), some (.int x1), some (.int x2)] [] (S, I, L, R) = hs_R scr d 283 52 [some (.ref t0), some (.int x1), some (.int (x2 + 1))] [] (S, I, L, R) := Eq.trans (r_inc (loc' := [some (.ref t0), some (.int x1), some (.int (x2 + 1))]) d283_61 kI_1 rfl rfl) (Eq.trans (r_goto d283_64 rfl) (rfl))
theorem b283_78 {t0 : Nat} {x1 x2 s0 : Int32}  : hs_R scr d 283 78 [some (.ref t0), some (.int x1), some (.int x2)] [.int s0] (S, I, L, R) = some (some (.int s0), (S, I, L, R)) := r_ri d283_78 rt283
theorem e284 {t0 : Nat} : hs_C scr d 284 [.ref t0] h = hs_R scr d 284 0 [some (.ref t0), none, none] [] h := by rw [hs_C, mL284]; rfl
theorem b284_0 {t0 : Nat} (o_t0 : ok11 S R t0) : hs_R scr d 284 0 [some (.ref t0), none, none] [] (S, I, L, R) = (if (I (t0 + 5) 2) = 0 then hs_R scr d 284 28 [some (.ref t0), none, none] [.int 0] (S, I, L, R) else (if hs_ib ((52 : Int32) + (I (t0 + 5) 58)) 1995 = true then hs_R scr d 284 28 [some (.ref t0), none, none] [.int (I (t0 + 5) (Int32.toNatClampNeg ((52 : Int32) + (I (t0 + 5) 58))))] (S, I, L, R) else none)) := Eq.trans (r_al_n d284_0 rfl) (Eq.trans (r_getRe d284_1 f284_35 o_t0.2.1 (o_t0.2.2.2.2.2.2.2.2.2.2.1) (Nat.le_trans o_t0.1 (Nat.le_add_right _ _))) (Eq.trans (r_ic d284_4 kI_2) (Eq.trans ((r_ialdC d284_5 (o_t0.2.2.2.2.2.2.2.2.2.2.2.1) ib_2_1995 tn_2)) (Eq.trans (r_zne d284_6 rfl) (q_ite (Eq.trans (r_ic d284_9 kI_0) (Eq.trans (r_goto d284_10 rfl) (rfl))) (Eq.trans (r_al_n d284_13 rfl) (Eq.trans (r_getRe d284_14 f284_35 o_t0.2.1 (o_t0.2.2.2.2.2.2.2.2.2.2.1) (Nat.le_trans o_t0.1 (Nat.le_add_right _ _))) (Eq.trans (r_bp d284_17 kB_52) (Eq.trans (r_al_n d284_19 rfl) (Eq.trans (r_getRe d284_20 f284_35 o_t0.2.1 (o_t0.2.2.2.2.2.2.2.2.2.2.1) (Nat.le_trans o_t0.1 (Nat.le_add_right _ _))) (Eq.trans (r_bp d284_23 kB_58) (Eq.trans ((r_ialdC d284_25 (o_t0.2.2.2.2.2.2.2.2.2.2.2.1) ib_58_1995 tn_58)) (Eq.trans (r_iadd d284_26) (Eq.trans (r_iald d284_27 (o_t0.2.2.2.2.2.2.2.2.2.2.2.1)) (q_ite (rfl) rfl)))))))))))))))
theorem b284_28 {t0 : Nat} {s0 : Int32}  : hs_R scr d 284 28 [some (.ref t0), none, none] [.int s0] (S, I, L, R) = hs_R scr d 284 31 [some (.ref t0), some (.int s0), some (.int 0)] [] (S, I, L, R) := Eq.trans (r_is_n (loc' := [some (.ref t0), some (.int s0), none]) d284_28 rfl) (Eq.trans (r_ic d284_29 kI_0) (Eq.trans (r_is_n (loc' := [some (.ref t0), some (.int s0), some (.int 0)]) d284_30 rfl) (rfl)))
theorem b284_31 {t0 : Nat} {x1 x2 : Int32} (o_t0 : ok11 S R t0) : hs_R scr d 284 31 [some (.ref t0), some (.int x1), some (.int x2)] [] (S, I, L, R) = (if (I (t0 + 5) 0) ≤ x2 then some (none, (S, (hs_u I (t0 + 5) 8 ((I (t0 + 5) 8) + 1)), L, R)) else (if hs_ib ((10 : Int32) + x2) 1995 = true then (if hs_ib ((18 : Int32) + x2) 1995 = true then (if hs_ib ((10 : Int32) + x2) 1995 = true then (if hs_ib ((34 : Int32) + x2) 1995 = true then (if ((hs_u I (t0 + 5) (Int32.toNatClampNeg ((10 : Int32) + x2)) (if (((I (t0 + 5) (Int32.toNatClampNeg ((10 : Int32) + x2))) + (I (t0 + 5) (Int32.toNatClampNeg ((18 : Int32) + x2)))) + x1) < (99 : Int32) then (((I (t0 + 5) (Int32.toNatClampNeg ((10 : Int32) + x2))) + (I (t0 + 5) (Int32.toNatClampNeg ((18 : Int32) + x2)))) + x1) else (99 : Int32))) (t0 + 5) (Int32.toNatClampNeg ((34 : Int32) + x2))) ≤ 0 then (if ((hs_u I (t0 + 5) (Int32.toNatClampNeg ((10 : Int32) + x2)) (if (((I (t0 + 5) (Int32.toNatClampNeg ((10 : Int32) + x2))) + (I (t0 + 5) (Int32.toNatClampNeg ((18 : Int32) + x2)))) + x1) < (99 : Int32) then (((I (t0 + 5) (Int32.toNatClampNeg ((10 : Int32) + x2))) + (I (t0 + 5) (Int32.toNatClampNeg ((18 : Int32) + x2)))) + x1) else (99 : Int32))) (t0 + 5) 9) = 1 then (if hs_ib ((26 : Int32) + x2) 1995 = true then hs_R scr d 284 156 [some (.ref t0), some (.int x1), some (.int x2)] [.int (if (((hs_u I (t0 + 5) (Int32.toNatClampNeg ((10 : Int32) + x2)) (if (((I (t0 + 5) (Int32.toNatClampNeg ((10 : Int32) + x2))) + (I (t0 + 5) (Int32.toNatClampNeg ((18 : Int32) + x2)))) + x1) < (99 : Int32) then (((I (t0 + 5) (Int32.toNatClampNeg ((10 : Int32) + x2))) + (I (t0 + 5) (Int32.toNatClampNeg ((18 : Int32) + x2)))) + x1) else (99 : Int32))) (t0 + 5) (Int32.toNatClampNeg ((26 : Int32) + x2))) + 1) < (2 : Int32) then (((hs_u I (t0 + 5) (Int32.toNatClampNeg ((10 : Int32) + x2)) (if (((I (t0 + 5) (Int32.toNatClampNeg ((10 : Int32) + x2))) + (I (t0 + 5) (Int32.toNatClampNeg ((18 : Int32) + x2)))) + x1) < (99 : Int32) then (((I (t0 + 5) (Int32.toNatClampNeg ((10 : Int32) + x2))) + (I (t0 + 5) (Int32.toNatClampNeg ((18 : Int32) + x2)))) + x1) else (99 : Int32))) (t0 + 5) (Int32.toNatClampNeg ((26 : Int32) + x2))) + 1) else (2 : Int32)), .int ((26 : Int32) + x2), .ref (t0 + 5)] (S, (hs_u I (t0 + 5) (Int32.toNatClampNeg ((10 : Int32) + x2)) (if (((I (t0 + 5) (Int32.toNatClampNeg ((10 : Int32) + x2))) + (I (t0 + 5) (Int32.toNatClampNeg ((18 : Int32) + x2)))) + x1) < (99 : Int32) then (((I (t0 + 5) (Int32.toNatClampNeg ((10 : Int32) + x2))) + (I (t0 + 5) (Int32.toNatClampNeg ((18 : Int32) + x2)))) + x1) else (99 : Int32))), L, R) else none) else (if hs_ib ((26 : Int32) + x2) 1995 = true then hs_R scr d 284 156 [some (.ref t0), some (.int x1), some (.int x2)] [.int (if (0 : Int32) < (((hs_u I (t0 + 5) (Int32.toNatClampNeg ((10 : Int32) + x2)) (if (((I (t0 + 5) (Int32.toNatClampNeg ((10 : Int32) + x2))) + (I (t0 + 5) (Int32.toNatClampNeg ((18 : Int32) + x2)))) + x1) < (99 : Int32) then (((I (t0 + 5) (Int32.toNatClampNeg ((10 : Int32) + x2))) + (I (t0 + 5) (Int32.toNatClampNeg ((18 : Int32) + x2)))) + x1) else (99 : Int32))) (t0 + 5) (Int32.toNatClampNeg ((26 : Int32) + x2))) - 1) then (((hs_u I (t0 + 5) (Int32.toNatClampNeg ((10 : Int32) + x2)) (if (((I (t0 + 5) (Int32.toNatClampNeg ((10 : Int32) + x2))) + (I (t0 + 5) (Int32.toNatClampNeg ((18 : Int32) + x2)))) + x1) < (99 : Int32) then (((I (t0 + 5) (Int32.toNatClampNeg ((10 : Int32) + x2))) + (I (t0 + 5) (Int32.toNatClampNeg ((18 : Int32) + x2)))) + x1) else (99 : Int32))) (t0 + 5) (Int32.toNatClampNeg ((26 : Int32) + x2))) - 1) else (0 : Int32)), .int ((26 : Int32) + x2), .ref (t0 + 5)] (S, (hs_u I (t0 + 5) (Int32.toNatClampNeg ((10 : Int32) + x2)) (if (((I (t0 + 5) (Int32.toNatClampNeg ((10 : Int32) + x2))) + (I (t0 + 5) (Int32.toNatClampNeg ((18 : Int32) + x2)))) + x1) < (99 : Int32) then (((I (t0 + 5) (Int32.toNatClampNeg ((10 : Int32) + x2))) + (I (t0 + 5) (Int32.toNatClampNeg ((18 : Int32) + x2)))) + x1) else (99 : Int32))), L, R) else none)) else (if hs_ib ((34 : Int32) + x2) 1995 = true then (if hs_ib ((34 : Int32) + x2) 1995 = true then hs_R scr d 284 157 [some (.ref t0), some (.int x1), some (.int x2)] [] (S, (hs_u (hs_u I (t0 + 5) (Int32.toNatClampNeg ((10 : Int32) + x2)) (if (((I (t0 + 5) (Int32.toNatClampNeg ((10 : Int32) + x2))) + (I (t0 + 5) (Int32.toNatClampNeg ((18 : Int32) + x2)))) + x1) < (99 : Int32) then (((I (t0 + 5) (Int32.toNatClampNeg ((10 : Int32) + x2))) + (I (t0 + 5) (Int32.toNatClampNeg ((18 : Int32) + x2)))) + x1) else (99 : Int32))) (t0 + 5) (Int32.toNatClampNeg ((34 : Int32) + x2)) (((hs_u I (t0 + 5) (Int32.toNatClampNeg ((10 : Int32) + x2)) (if (((I (t0 + 5) (Int32.toNatClampNeg ((10 : Int32) + x2))) + (I (t0 + 5) (Int32.toNatClampNeg ((18 : Int32) + x2)))) + x1) < (99 : Int32) then (((I (t0 + 5) (Int32.toNatClampNeg ((10 : Int32) + x2))) + (I (t0 + 5) (Int32.toNatClampNeg ((18 : Int32) + x2)))) + x1) else (99 : Int32))) (t0 + 5) (Int32.toNatClampNeg ((34 : Int32) + x2))) - 1)), L, R) else none) else none)) else none) else none) else none) else none)) := Eq.trans (r_il_n d284_31 rfl) (Eq.trans (r_al_n d284_32 rfl) (Eq.trans (r_getRe d284_33 f284_35 o_t0.2.1 (o_t0.2.2.2.2.2.2.2.2.2.2.1) (Nat.le_trans o_t0.1 (Nat.le_add_right _ _))) (Eq.trans (r_ic d284_36 kI_0) (Eq.trans ((r_ialdC d284_37 (o_t0.2.2.2.2.2.2.2.2.2.2.2.1) ib_0_1995 tn_0)) (Eq.trans (r_cge d284_38 rfl) (q_ite (Eq.trans (r_al_n d284_163 rfl) (Eq.trans (r_getRe d284_164 f284_35 o_t0.2.1 (o_t0.2.2.2.2.2.2.2.2.2.2.1) (Nat.le_trans o_t0.1 (Nat.le_add_right _ _))) (Eq.trans (r_bp d284_167 kB_8) (Eq.trans (r_dup2 d284_169 ⟨rfl, rfl⟩) (Eq.trans ((r_ialdC d284_170 (o_t0.2.2.2.2.2.2.2.2.2.2.2.1) ib_8_1995 tn_8)) (Eq.trans (r_ic d284_171 kI_1) (Eq.trans (r_iadd d284_172) (Eq.trans ((r_iastC d284_173 (o_t0.2.2.2.2.2.2.2.2.2.2.2.1) ib_8_1995 tn_8)) (r_rv d284_174 rt284))))))))) (Eq.trans (r_al_n d284_41 rfl) (Eq.trans (r_getRe d284_42 f284_35 o_t0.2.1 (o_t0.2.2.2.2.2.2.2.2.2.2.1) (Nat.le_trans o_t0.1 (Nat.le_add_right _ _))) (Eq.trans (r_bp d284_45 kB_10) (Eq.trans (r_il_n d284_47 rfl) (Eq.trans (r_iadd d284_48) (Eq.trans (r_bp d284_49 kB_99) (Eq.trans (r_al_n d284_51 rfl) (Eq.trans (r_getRe d284_52 f284_35 o_t0.2.1 (o_t0.2.2.2.2.2.2.2.2.2.2.1) (Nat.le_trans o_t0.1 (Nat.le_add_right _ _))) (Eq.trans (r_bp d284_55 kB_10) (Eq.trans (r_il_n d284_57 rfl) (Eq.trans (r_iadd d284_58) (Eq.trans (r_iald d284_59 (o_t0.2.2.2.2.2.2.2.2.2.2.2.1)) (q_ite (Eq.trans (r_al_n d284_60 rfl) (Eq.trans (r_getRe d284_61 f284_35 o_t0.2.1 (o_t0.2.2.2.2.2.2.2.2.2.2.1) (Nat.le_trans o_t0.1 (Nat.le_add_right _ _))) (Eq.trans (r_bp d284_64 kB_18) (Eq.trans (r_il_n d284_66 rfl) (Eq.trans (r_iadd d284_67) (Eq.trans (r_iald d284_68 (o_t0.2.2.2.2.2.2.2.2.2.2.2.1)) (q_ite (Eq.trans (r_iadd d284_69) (Eq.trans (r_il_n d284_70 rfl) (Eq.trans (r_iadd d284_71) (Eq.trans (r_min d284_72 c284_317 rfl) (Eq.trans (r_iast d284_75 (o_t0.2.2.2.2.2.2.2.2.2.2.2.1)) (q_ite (Eq.trans (r_al_n d284_76 rfl) (Eq.trans (r_getRe d284_77 f284_35 o_t0.2.1 (o_t0.2.2.2.2.2.2.2.2.2.2.1) (Nat.le_trans o_t0.1 (Nat.le_add_right _ _))) (Eq.trans (r_bp d284_80 kB_34) (Eq.trans (r_il_n d284_82 rfl) (Eq.trans (r_iadd d284_83) (Eq.trans (r_iald d284_84 (o_t0.2.2.2.2.2.2.2.2.2.2.2.1)) (q_ite (Eq.trans (r_zle d284_85 rfl) (q_ite (Eq.trans (r_al_n d284_104 rfl) (Eq.trans (r_getRe d284_105 f284_35 o_t0.2.1 (o_t0.2.2.2.2.2.2.2.2.2.2.1) (Nat.le_trans o_t0.1 (Nat.le_add_right _ _))) (Eq.trans (r_bp d284_108 kB_26) (Eq.trans (r_il_n d284_110 rfl) (Eq.trans (r_iadd d284_111) (Eq.trans (r_al_n d284_112 rfl) (Eq.trans (r_getRe d284_113 f284_35 o_t0.2.1 (o_t0.2.2.2.2.2.2.2.2.2.2.1) (Nat.le_trans o_t0.1 (Nat.le_add_right _ _))) (Eq.trans (r_bp d284_116 kB_9) (Eq.trans ((r_ialdC d284_118 (o_t0.2.2.2.2.2.2.2.2.2.2.2.1) ib_9_1995 tn_9)) (Eq.trans (r_ic d284_119 kI_1) (Eq.trans (r_cne d284_120 rfl) (q_ite (Eq.trans (r_ic d284_123 kI_2) (Eq.trans (r_al_n d284_124 rfl) (Eq.trans (r_getRe d284_125 f284_35 o_t0.2.1 (o_t0.2.2.2.2.2.2.2.2.2.2.1) (Nat.le_trans o_t0.1 (Nat.le_add_right _ _))) (Eq.trans (r_bp d284_128 kB_26) (Eq.trans (r_il_n d284_130 rfl) (Eq.trans (r_iadd d284_131) (Eq.trans (r_iald d284_132 (o_t0.2.2.2.2.2.2.2.2.2.2.2.1)) (q_ite (Eq.trans (r_ic d284_133 kI_1) (Eq.trans (r_iadd d284_134) (Eq.trans (r_min d284_135 c284_317 rfl) (Eq.trans (r_goto d284_138 rfl) (rfl))))) rfl)))))))) (Eq.trans (r_ic d284_141 kI_0) (Eq.trans (r_al_n d284_142 rfl) (Eq.trans (r_getRe d284_143 f284_35 o_t0.2.1 (o_t0.2.2.2.2.2.2.2.2.2.2.1) (Nat.le_trans o_t0.1 (Nat.le_add_right _ _))) (Eq.trans (r_bp d284_146 kB_26) (Eq.trans (r_il_n d284_148 rfl) (Eq.trans (r_iadd d284_149) (Eq.trans (r_iald d284_150 (o_t0.2.2.2.2.2.2.2.2.2.2.2.1)) (q_ite (Eq.trans (r_ic d284_151 kI_1) (Eq.trans (r_isub d284_152) (Eq.trans (r_max d284_153 c284_245 rfl) (rfl)))) rfl)))))))))))))))))))) (Eq.trans (r_al_n d284_88 rfl) (Eq.trans (r_getRe d284_89 f284_35 o_t0.2.1 (o_t0.2.2.2.2.2.2.2.2.2.2.1) (Nat.le_trans o_t0.1 (Nat.le_add_right _ _))) (Eq.trans (r_bp d284_92 kB_34) (Eq.trans (r_il_n d284_94 rfl) (Eq.trans (r_iadd d284_95) (Eq.trans (r_dup2 d284_96 ⟨rfl, rfl⟩) (Eq.trans (r_iald d284_97 (o_t0.2.2.2.2.2.2.2.2.2.2.2.1)) (q_ite (Eq.trans (r_ic d284_98 kI_1) (Eq.trans (r_isub d284_99) (Eq.trans (r_iast d284_100 (o_t0.2.2.2.2.2.2.2.2.2.2.2.1)) (q_ite (Eq.trans (r_goto d284_101 rfl) (rfl)) rfl)))) rfl)))))))))) rfl))))))) rfl)))))) rfl))))))) rfl)))))))))))))))))))
theorem b284_156 {t0 u0 n_u0 : Nat} {x1 x2 s1 s2 : Int32} (a_u0 : S[u0]? = some (.inr (.int, n_u0))) : hs_R scr d 284 156 [some (.ref t0), some (.int x1), some (.int x2)] [.int s2, .int s1, .ref u0] (S, I, L, R) = (if hs_ib s1 n_u0 = true then hs_R scr d 284 157 [some (.ref t0), some (.int x1), some (.int x2)] [] (S, (hs_u I u0 (Int32.toNatClampNeg s1) s2), L, R) else none) := Eq.trans (r_iast d284_156 a_u0) (q_ite (rfl) rfl)
theorem b284_157 {t0 : Nat} {x1 x2 : Int32}  : hs_R scr d 284 157 [some (.ref t0), some (.int x1), some (.int x2)] [] (S, I, L, R) = hs_R scr d 284 31 [some (.ref t0), some (.int x1), some (.int (x2 + 1))] [] (S, I, L, R) := Eq.trans (r_inc (loc' := [some (.ref t0), some (.int x1), some (.int (x2 + 1))]) d284_157 kI_1 rfl rfl) (Eq.trans (r_goto d284_160 rfl) (rfl))
theorem e285 {t0 : Nat} {x1 : Int32} : hs_C scr d 285 [.ref t0, .int x1] h = hs_R scr d 285 0 [some (.ref t0), some (.int x1)] [] h := by rw [hs_C, mL285]; rfl
theorem b285_0 {t0 : Nat} {x1 : Int32} (o_t0 : ok11 S R t0) : hs_R scr d 285 0 [some (.ref t0), some (.int x1)] [] (S, I, L, R) = (if x1 = 0 then hs_R scr d 285 22 [some (.ref t0), some (.int x1)] [.int 0, .int 9, .ref t0] (S, (hs_u (hs_u I t0 1 0) t0 0 0), L, R) else hs_R scr d 285 22 [some (.ref t0), some (.int x1)] [.int 1, .int 9, .ref t0] (S, (hs_u (hs_u I t0 1 0) t0 0 0), L, R)) := Eq.trans (r_al_n d285_0 rfl) (Eq.trans (r_ic d285_1 kI_0) (Eq.trans (r_putI d285_2 f285_60 o_t0.2.1) (Eq.trans (r_al_n d285_5 rfl) (Eq.trans (r_ic d285_6 kI_0) (Eq.trans (r_putI d285_7 f285_63 o_t0.2.1) (Eq.trans (r_al_n d285_10 rfl) (Eq.trans (r_bp d285_11 kB_9) (Eq.trans (r_il_n d285_13 rfl) (Eq.trans (r_zeq d285_14 rfl) (q_ite (Eq.trans (r_ic d285_21 kI_0) (rfl)) (Eq.trans (r_ic d285_17 kI_1) (Eq.trans (r_goto d285_18 rfl) (rfl)))))))))))))
theorem b285_22 {t0 u0 : Nat} {x1 s1 s2 : Int32} (o_u0 : ok11 S R u0) : hs_R scr (d + 1) 285 22 [some (.ref t0), some (.int x1)] [.int s2, .int s1, .ref u0] (S, I, L, R) = ((hs_C scr d 286 [.ref u0, .int s1, .int s2] (S, I, L, R)).bind fun o => hs_R scr (d + 1) 285 25 [some (.ref t0), some (.int x1)] (o.1.toList ++ []) o.2) := r_cvE (as := [.int s1, .int s2]) (r := []) d285_22 c285_364 ow286 o_u0.2.1 np286.symm rfl (hs_fitE mL286 (Nat.le_of_ble_eq_true rfl))
theorem b285_25 {t0 : Nat} {x1 s0 : Int32} (o_t0 : ok11 S R t0) : hs_R scr (d + 1) 285 25 [some (.ref t0), some (.int x1)] [.int s0] (S, I, L, R) = (if s0 = 0 then ((hs_C scr d 197 [.ref t0, .int 9] (S, I, L, R)).bind fun o => hs_R scr (d + 1) 285 34 [some (.ref t0), some (.int x1)] (o.1.toList ++ []) o.2) else hs_R scr (d + 1) 285 37 [some (.ref t0), some (.int x1)] [] (S, I, L, R)) := Eq.trans (r_zne d285_25 rfl) (q_ite (Eq.trans (r_al_n d285_28 rfl) (Eq.trans (r_bp d285_29 kB_9) (r_cvE (as := [.int 9]) (r := []) d285_31 c285_75 ow197 o_t0.2.1 np197.symm rfl (hs_fitE mL197 (Nat.le_of_ble_eq_true rfl))))) (rfl))
theorem b285_34 {t0 : Nat} {x1 s0 : Int32}  : hs_R scr d 285 34 [some (.ref t0), some (.int x1)] [.int s0] (S, I, L, R) = (if s0 = 0 then hs_R scr d 285 42 [some (.ref t0), some (.int x1)] [.int 0] (S, I, L, R) else hs_R scr d 285 37 [some (.ref t0), some (.int x1)] [] (S, I, L, R)) := Eq.trans (r_zeq d285_34 rfl) (q_ite (Eq.trans (r_ic d285_41 kI_0) (rfl)) (rfl))
theorem b285_37 {t0 : Nat} {x1 : Int32}  : hs_R scr d 285 37 [some (.ref t0), some (.int x1)] [] (S, I, L, R) = hs_R scr d 285 42 [some (.ref t0), some (.int x1)] [.int 1] (S, I, L, R) := Eq.trans (r_ic d285_37 kI_1) (Eq.trans (r_goto d285_38 rfl) (rfl))
theorem b285_42 {t0 : Nat} {x1 s0 : Int32}  : hs_R scr d 285 42 [some (.ref t0), some (.int x1)] [.int s0] (S, I, L, R) = (if s0 = 0 ∨ s0 = 1 then some (some (.int s0), (S, I, L, R)) else none) := r_rz d285_42 rt285
theorem e286 {t0 : Nat} {x1 : Int32} {x2 : Int32} : hs_C scr d 286 [.ref t0, .int x1, .int x2] h = hs_R scr d 286 0 [some (.ref t0), some (.int x1), some (.int x2)] [] h := by rw [hs_C, mL286]; rfl
theorem b286_0 {t0 : Nat} {x1 x2 : Int32} (o_t0 : ok11 S R t0) : hs_R scr d 286 0 [some (.ref t0), some (.int x1), some (.int x2)] [] (S, I, L, R) = (if hs_ib x1 1995 = true then (if (I (t0 + 5) (Int32.toNatClampNeg x1)) = x2 then some (some (.int 0), (S, I, L, R)) else (if hs_ib x1 1995 = true then some (some (.int 1), (S, (hs_u I (t0 + 5) (Int32.toNatClampNeg x1) x2), L, R)) else none)) else none) := Eq.trans (r_al_n d286_0 rfl) (Eq.trans (r_getRe d286_1 f286_35 o_t0.2.1 (o_t0.2.2.2.2.2.2.2.2.2.2.1) (Nat.le_trans o_t0.1 (Nat.le_add_right _ _))) (Eq.trans (r_il_n d286_4 rfl) (Eq.trans (r_iald d286_5 (o_t0.2.2.2.2.2.2.2.2.2.2.2.1)) (q_ite (Eq.trans (r_il_n d286_6 rfl) (Eq.trans (r_cne d286_7 rfl) (q_ite (Eq.trans (r_ic d286_10 kI_0) ((r_rz d286_11 rt286).trans (if_pos (Or.inl rfl)))) (Eq.trans (r_al_n d286_12 rfl) (Eq.trans (r_getRe d286_13 f286_35 o_t0.2.1 (o_t0.2.2.2.2.2.2.2.2.2.2.1) (Nat.le_trans o_t0.1 (Nat.le_add_right _ _))) (Eq.trans (r_il_n d286_16 rfl) (Eq.trans (r_il_n d286_17 rfl) (Eq.trans (r_iast d286_18 (o_t0.2.2.2.2.2.2.2.2.2.2.2.1)) (q_ite (Eq.trans (r_ic d286_19 kI_1) ((r_rz d286_20 rt286).trans (if_pos (Or.inr rfl)))) rfl))))))))) rfl))))
theorem e287 {t0 : Nat} {x1 : Int32} {x2 : Int32} : hs_C scr d 287 [.ref t0, .int x1, .int x2] h = hs_R scr d 287 0 [some (.ref t0), some (.int x1), some (.int x2), none] [] h := by rw [hs_C, mL287]; rfl
theorem b287_0 {t0 : Nat} {x1 x2 : Int32} (o_t0 : ok11 S R t0) : hs_R scr (d + 1) 287 0 [some (.ref t0), some (.int x1), some (.int x2), none] [] (S, I, L, R) = ((hs_C scr d 272 [.ref t0, .int x1] (S, (hs_u (hs_u I t0 1 0) t0 0 0), L, R)).bind fun o => hs_R scr (d + 1) 287 15 [some (.ref t0), some (.int x1), some (.int x2), none] (o.1.toList ++ []) o.2) := Eq.trans (r_al_n d287_0 rfl) (Eq.trans (r_ic d287_1 kI_0) (Eq.trans (r_putI d287_2 f287_60 o_t0.2.1) (Eq.trans (r_al_n d287_5 rfl) (Eq.trans (r_ic d287_6 kI_0) (Eq.trans (r_putI d287_7 f287_63 o_t0.2.1) (Eq.trans (r_al_n d287_10 rfl) (Eq.trans (r_il_n d287_11 rfl) (r_cvE (as := [.int x1]) (r := []) d287_12 c287_340 ow272 o_t0.2.1 np272.symm rfl (hs_fitE mL272 (Nat.le_of_ble_eq_true rfl))))))))))
theorem b287_15 {t0 : Nat} {x1 x2 s0 : Int32} (o_t0 : ok11 S R t0) : hs_R scr (d + 1) 287 15 [some (.ref t0), some (.int x1), some (.int x2), none] [.int s0] (S, I, L, R) = (if s0 = 0 then ((hs_C scr d 265 [.ref t0, .int 2] (S, I, L, R)).bind fun o => hs_R scr (d + 1) 287 23 [some (.ref t0), some (.int x1), some (.int x2), none] (o.1.toList ++ []) o.2) else ((hs_C scr d 223 [.long (Int32.toInt64 x2), .long 0, .long 99] (S, I, L, R)).bind fun o => hs_R scr (d + 1) 287 33 [some (.ref t0), some (.int x1), some (.int x2), none] (o.1.toList ++ []) o.2)) := Eq.trans (r_zne d287_15 rfl) (q_ite (Eq.trans (r_al_n d287_18 rfl) (Eq.trans (r_ic d287_19 kI_2) (r_cvE (as := [.int 2]) (r := []) d287_20 c287_322 ow265 o_t0.2.1 np265.symm rfl (hs_fitE mL265 (Nat.le_of_ble_eq_true rfl))))) (Eq.trans (r_il_n d287_24 rfl) (Eq.trans (r_i2l d287_25) (Eq.trans (r_lc d287_26 kL_0) (Eq.trans (r_ldc2 d287_27 cl287_359) (r_cs (as := [.long (Int32.toInt64 x2), .long 0, .long 99]) (r := []) d287_30 c287_95 np223.symm rfl (hs_fitE mL223 (Nat.le_of_ble_eq_true rfl))))))))
theorem b287_23 {t0 : Nat} {x1 x2 s0 : Int32}  : hs_R scr d 287 23 [some (.ref t0), some (.int x1), some (.int x2), none] [.int s0] (S, I, L, R) = some (some (.int s0), (S, I, L, R)) := r_ri d287_23 rt287
theorem b287_33 {t0 : Nat} {x1 x2 s0 : Int32} (o_t0 : ok11 S R t0) : hs_R scr (d + 1) 287 33 [some (.ref t0), some (.int x1), some (.int x2), none] [.int s0] (S, I, L, R) = (if s0 = 0 then ((hs_C scr d 265 [.ref t0, .int 5] (S, I, L, R)).bind fun o => hs_R scr (d + 1) 287 41 [some (.ref t0), some (.int x1), some (.int x2), none] (o.1.toList ++ []) o.2) else (if hs_ib ((34 : Int32) + x1) 1995 = true then (if hs_ib ((34 : Int32) + x1) 1995 = true then some (some (.int (I (t0 + 5) (Int32.toNatClampNeg ((34 : Int32) + x1)))), (S, (hs_u I (t0 + 5) (Int32.toNatClampNeg ((34 : Int32) + x1)) x2), L, R)) else none) else none)) := Eq.trans (r_zne d287_33 rfl) (q_ite (Eq.trans (r_al_n d287_36 rfl) (Eq.trans (r_ic d287_37 kI_5) (r_cvE (as := [.int 5]) (r := []) d287_38 c287_322 ow265 o_t0.2.1 np265.symm rfl (hs_fitE mL265 (Nat.le_of_ble_eq_true rfl))))) (Eq.trans (r_al_n d287_42 rfl) (Eq.trans (r_getRe d287_43 f287_35 o_t0.2.1 (o_t0.2.2.2.2.2.2.2.2.2.2.1) (Nat.le_trans o_t0.1 (Nat.le_add_right _ _))) (Eq.trans (r_bp d287_46 kB_34) (Eq.trans (r_il_n d287_48 rfl) (Eq.trans (r_iadd d287_49) (Eq.trans (r_iald d287_50 (o_t0.2.2.2.2.2.2.2.2.2.2.2.1)) (q_ite (Eq.trans (r_is_n (loc' := [some (.ref t0), some (.int x1), some (.int x2), some (.int (I (t0 + 5) (Int32.toNatClampNeg ((34 : Int32) + x1))))]) d287_51 rfl) (Eq.trans (r_al_n d287_52 rfl) (Eq.trans (r_getRe d287_53 f287_35 o_t0.2.1 (o_t0.2.2.2.2.2.2.2.2.2.2.1) (Nat.le_trans o_t0.1 (Nat.le_add_right _ _))) (Eq.trans (r_bp d287_56 kB_34) (Eq.trans (r_il_n d287_58 rfl) (Eq.trans (r_iadd d287_59) (Eq.trans (r_il_n d287_60 rfl) (Eq.trans (r_iast d287_61 (o_t0.2.2.2.2.2.2.2.2.2.2.2.1)) (q_ite (Eq.trans (r_il_n d287_62 rfl) (r_ri d287_63 rt287)) rfl))))))))) rfl))))))))
theorem b287_41 {t0 : Nat} {x1 x2 s0 : Int32}  : hs_R scr d 287 41 [some (.ref t0), some (.int x1), some (.int x2), none] [.int s0] (S, I, L, R) = some (some (.int s0), (S, I, L, R)) := r_ri d287_41 rt287
theorem e288 {t0 : Nat} {x1 : Int32} {x2 : Int32} : hs_C scr d 288 [.ref t0, .int x1, .int x2] h = hs_R scr d 288 0 [some (.ref t0), some (.int x1), some (.int x2)] [] h := by rw [hs_C, mL288]; rfl
theorem b288_0 {t0 : Nat} {x1 x2 : Int32} (o_t0 : ok11 S R t0) : hs_R scr (d + 1) 288 0 [some (.ref t0), some (.int x1), some (.int x2)] [] (S, I, L, R) = ((hs_C scr d 289 [.ref t0, .int x1, .int x2] (S, (hs_u I t0 1 0), L, R)).bind fun o => hs_R scr (d + 1) 288 12 [some (.ref t0), some (.int x1), some (.int x2)] (o.1.toList ++ [.ref t0]) o.2) := Eq.trans (r_al_n d288_0 rfl) (Eq.trans (r_ic d288_1 kI_0) (Eq.trans (r_putI d288_2 f288_60 o_t0.2.1) (Eq.trans (r_al_n d288_5 rfl) (Eq.trans (r_al_n d288_6 rfl) (Eq.trans (r_il_n d288_7 rfl) (Eq.trans (r_il_n d288_8 rfl) (r_cvE (as := [.int x1, .int x2]) (r := [.ref t0]) d288_9 c288_367 ow289 o_t0.2.1 np289.symm rfl (hs_fitE mL289 (Nat.le_of_ble_eq_true rfl)))))))))
theorem b288_12 {t0 u0 : Nat} {x1 x2 s1 : Int32} (o_u0 : ok11 S R u0) (o_t0 : ok11 S R t0) : hs_R scr (d + 1) 288 12 [some (.ref t0), some (.int x1), some (.int x2)] [.int s1, .ref u0] (S, I, L, R) = (if ((hs_u I u0 0 s1) t0 0) ≤ 0 then ((hs_C scr d 290 [.ref t0, .int x1, .int x2] (S, (hs_u I u0 0 s1), L, R)).bind fun o => hs_R scr (d + 1) 288 32 [some (.ref t0), some (.int x1), some (.int x2)] (o.1.toList ++ []) o.2) else hs_R scr (d + 1) 288 32 [some (.ref t0), some (.int x1), some (.int x2)] [.int (-1)] (S, (hs_u I u0 0 s1), L, R)) := Eq.trans (r_putI d288_12 f288_63 o_u0.2.1) (Eq.trans (r_al_n d288_15 rfl) (Eq.trans (r_getI d288_16 f288_63 o_t0.2.1) (Eq.trans (r_zle d288_19 rfl) (q_ite (Eq.trans (r_al_n d288_26 rfl) (Eq.trans (r_il_n d288_27 rfl) (Eq.trans (r_il_n d288_28 rfl) (r_cvE (as := [.int x1, .int x2]) (r := []) d288_29 c288_370 ow290 o_t0.2.1 np290.symm rfl (hs_fitE mL290 (Nat.le_of_ble_eq_true rfl)))))) (Eq.trans (r_ic d288_22 kI_m1) (Eq.trans (r_goto d288_23 rfl) (rfl)))))))
theorem b288_32 {t0 : Nat} {x1 x2 s0 : Int32}  : hs_R scr d 288 32 [some (.ref t0), some (.int x1), some (.int x2)] [.int s0] (S, I, L, R) = some (some (.int s0), (S, I, L, R)) := r_ri d288_32 rt288
theorem e289 {t0 : Nat} {x1 : Int32} {x2 : Int32} : hs_C scr d 289 [.ref t0, .int x1, .int x2] h = hs_R scr d 289 0 [some (.ref t0), some (.int x1), some (.int x2)] [] h := by rw [hs_C, mL289]; rfl
theorem b289_0 {t0 : Nat} {x1 x2 : Int32} (o_t0 : ok11 S R t0) : hs_R scr (d + 1) 289 0 [some (.ref t0), some (.int x1), some (.int x2)] [] (S, I, L, R) = ((hs_C scr d 272 [.ref t0, .int x1] (S, I, L, R)).bind fun o => hs_R scr (d + 1) 289 5 [some (.ref t0), some (.int x1), some (.int x2)] (o.1.toList ++ []) o.2) := Eq.trans (r_al_n d289_0 rfl) (Eq.trans (r_il_n d289_1 rfl) (r_cvE (as := [.int x1]) (r := []) d289_2 c289_340 ow272 o_t0.2.1 np272.symm rfl (hs_fitE mL272 (Nat.le_of_ble_eq_true rfl))))
theorem b289_5 {t0 : Nat} {x1 x2 s0 : Int32}  : hs_R scr (d + 1) 289 5 [some (.ref t0), some (.int x1), some (.int x2)] [.int s0] (S, I, L, R) = (if s0 = 0 then some (some (.int 2), (S, I, L, R)) else ((hs_C scr d 223 [.long (Int32.toInt64 x2), .long 0, .long 99] (S, I, L, R)).bind fun o => hs_R scr (d + 1) 289 19 [some (.ref t0), some (.int x1), some (.int x2)] (o.1.toList ++ []) o.2)) := Eq.trans (r_zne d289_5 rfl) (q_ite (Eq.trans (r_ic d289_8 kI_2) (r_ri d289_9 rt289)) (Eq.trans (r_il_n d289_10 rfl) (Eq.trans (r_i2l d289_11) (Eq.trans (r_lc d289_12 kL_0) (Eq.trans (r_ldc2 d289_13 cl289_359) (r_cs (as := [.long (Int32.toInt64 x2), .long 0, .long 99]) (r := []) d289_16 c289_95 np223.symm rfl (hs_fitE mL223 (Nat.le_of_ble_eq_true rfl))))))))
theorem b289_19 {t0 : Nat} {x1 x2 s0 : Int32} (o_t0 : ok11 S R t0) : hs_R scr d 289 19 [some (.ref t0), some (.int x1), some (.int x2)] [.int s0] (S, I, L, R) = (if s0 = 0 then some (some (.int 5), (S, I, L, R)) else (if hs_ib ((10 : Int32) + x1) 1995 = true then (if x2 < (I (t0 + 5) (Int32.toNatClampNeg ((10 : Int32) + x1))) then hs_R scr d 289 43 [some (.ref t0), some (.int x1), some (.int x2)] [.int 0] (S, I, L, R) else hs_R scr d 289 43 [some (.ref t0), some (.int x1), some (.int x2)] [.int 9] (S, I, L, R)) else none)) := Eq.trans (r_zne d289_19 rfl) (q_ite (Eq.trans (r_ic d289_22 kI_5) (r_ri d289_23 rt289)) (Eq.trans (r_il_n d289_24 rfl) (Eq.trans (r_al_n d289_25 rfl) (Eq.trans (r_getRe d289_26 f289_35 o_t0.2.1 (o_t0.2.2.2.2.2.2.2.2.2.2.1) (Nat.le_trans o_t0.1 (Nat.le_add_right _ _))) (Eq.trans (r_bp d289_29 kB_10) (Eq.trans (r_il_n d289_31 rfl) (Eq.trans (r_iadd d289_32) (Eq.trans (r_iald d289_33 (o_t0.2.2.2.2.2.2.2.2.2.2.2.1)) (q_ite (Eq.trans (r_clt d289_34 rfl) (q_ite (Eq.trans (r_ic d289_42 kI_0) (rfl)) (Eq.trans (r_bp d289_37 kB_9) (Eq.trans (r_goto d289_39 rfl) (rfl))))) rfl)))))))))
theorem b289_43 {t0 : Nat} {x1 x2 s0 : Int32}  : hs_R scr d 289 43 [some (.ref t0), some (.int x1), some (.int x2)] [.int s0] (S, I, L, R) = some (some (.int s0), (S, I, L, R)) := r_ri d289_43 rt289
theorem e290 {t0 : Nat} {x1 : Int32} {x2 : Int32} : hs_C scr d 290 [.ref t0, .int x1, .int x2] h = hs_R scr d 290 0 [some (.ref t0), some (.int x1), some (.int x2), none] [] h := by rw [hs_C, mL290]; rfl
theorem b290_0 {t0 : Nat} {x1 x2 : Int32} (o_t0 : ok11 S R t0) : hs_R scr d 290 0 [some (.ref t0), some (.int x1), some (.int x2), none] [] (S, I, L, R) = (if hs_ib ((10 : Int32) + x1) 1995 = true then (if (0 : Int32) < ((I (t0 + 5) (Int32.toNatClampNeg ((10 : Int32) + x1))) - x2) then (if hs_ib ((10 : Int32) + x1) 1995 = true then some (some (.int ((I (t0 + 5) (Int32.toNatClampNeg ((10 : Int32) + x1))) - x2)), (S, (hs_u I (t0 + 5) (Int32.toNatClampNeg ((10 : Int32) + x1)) x2), L, R)) else none) else some (some (.int (-1)), (S, I, L, R))) else none) := Eq.trans (r_al_n d290_0 rfl) (Eq.trans (r_getRe d290_1 f290_35 o_t0.2.1 (o_t0.2.2.2.2.2.2.2.2.2.2.1) (Nat.le_trans o_t0.1 (Nat.le_add_right _ _))) (Eq.trans (r_bp d290_4 kB_10) (Eq.trans (r_il_n d290_6 rfl) (Eq.trans (r_iadd d290_7) (Eq.trans (r_iald d290_8 (o_t0.2.2.2.2.2.2.2.2.2.2.2.1)) (q_ite (Eq.trans (r_il_n d290_9 rfl) (Eq.trans (r_isub d290_10) (Eq.trans (r_is_n (loc' := [some (.ref t0), some (.int x1), some (.int x2), some (.int ((I (t0 + 5) (Int32.toNatClampNeg ((10 : Int32) + x1))) - x2))]) d290_11 rfl) (Eq.trans (r_il_n d290_12 rfl) (Eq.trans (r_zgt d290_13 rfl) (q_ite (Eq.trans (r_al_n d290_18 rfl) (Eq.trans (r_getRe d290_19 f290_35 o_t0.2.1 (o_t0.2.2.2.2.2.2.2.2.2.2.1) (Nat.le_trans o_t0.1 (Nat.le_add_right _ _))) (Eq.trans (r_bp d290_22 kB_10) (Eq.trans (r_il_n d290_24 rfl) (Eq.trans (r_iadd d290_25) (Eq.trans (r_il_n d290_26 rfl) (Eq.trans (r_iast d290_27 (o_t0.2.2.2.2.2.2.2.2.2.2.2.1)) (q_ite (Eq.trans (r_il_n d290_28 rfl) (r_ri d290_29 rt290)) rfl)))))))) (Eq.trans (r_ic d290_16 kI_m1) (r_ri d290_17 rt290)))))))) rfl))))))
theorem e291 {t0 : Nat} {x1 : Int32} {x2 : Int32} : hs_C scr d 291 [.ref t0, .int x1, .int x2] h = hs_R scr d 291 0 [some (.ref t0), some (.int x1), some (.int x2)] [] h := by rw [hs_C, mL291]; rfl
theorem b291_0 {t0 : Nat} {x1 x2 : Int32} (o_t0 : ok11 S R t0) : hs_R scr (d + 1) 291 0 [some (.ref t0), some (.int x1), some (.int x2)] [] (S, I, L, R) = ((hs_C scr d 289 [.ref t0, .int x1, .int x2] (S, (hs_u I t0 1 0), L, R)).bind fun o => hs_R scr (d + 1) 291 12 [some (.ref t0), some (.int x1), some (.int x2)] (o.1.toList ++ [.ref t0]) o.2) := Eq.trans (r_al_n d291_0 rfl) (Eq.trans (r_ic d291_1 kI_0) (Eq.trans (r_putI d291_2 f291_60 o_t0.2.1) (Eq.trans (r_al_n d291_5 rfl) (Eq.trans (r_al_n d291_6 rfl) (Eq.trans (r_il_n d291_7 rfl) (Eq.trans (r_il_n d291_8 rfl) (r_cvE (as := [.int x1, .int x2]) (r := [.ref t0]) d291_9 c291_367 ow289 o_t0.2.1 np289.symm rfl (hs_fitE mL289 (Nat.le_of_ble_eq_true rfl)))))))))
theorem b291_12 {t0 u0 : Nat} {x1 x2 s1 : Int32} (o_u0 : ok11 S R u0) (o_t0 : ok11 S R t0) : hs_R scr (d + 1) 291 12 [some (.ref t0), some (.int x1), some (.int x2)] [.int s1, .ref u0] (S, I, L, R) = (if ((hs_u I u0 0 s1) t0 0) ≤ 0 then ((hs_C scr d 292 [.ref t0, .int x1, .int x2] (S, (hs_u I u0 0 s1), L, R)).bind fun o => hs_R scr (d + 1) 291 30 [some (.ref t0), some (.int x1), some (.int x2)] (o.1.toList ++ []) o.2) else some (some (.int (-1)), (S, (hs_u I u0 0 s1), L, R))) := Eq.trans (r_putI d291_12 f291_63 o_u0.2.1) (Eq.trans (r_al_n d291_15 rfl) (Eq.trans (r_getI d291_16 f291_63 o_t0.2.1) (Eq.trans (r_zle d291_19 rfl) (q_ite (Eq.trans (r_al_n d291_24 rfl) (Eq.trans (r_il_n d291_25 rfl) (Eq.trans (r_il_n d291_26 rfl) (r_cvE (as := [.int x1, .int x2]) (r := []) d291_27 c291_375 ow292 o_t0.2.1 np292.symm rfl (hs_fitE mL292 (Nat.le_of_ble_eq_true rfl)))))) (Eq.trans (r_ic d291_22 kI_m1) (r_ri d291_23 rt291))))))
theorem b291_30 {t0 : Nat} {x1 x2 s0 : Int32} (o_t0 : ok11 S R t0) : hs_R scr (d + 1) 291 30 [some (.ref t0), some (.int x1), some (.int x2)] [.int s0] (S, I, L, R) = (if (0 : Int32) < s0 then ((hs_C scr d 290 [.ref t0, .int x1, .int x2] (S, I, L, R)).bind fun o => hs_R scr (d + 1) 291 41 [some (.ref t0), some (.int x1), some (.int x2)] (o.1.toList ++ []) o.2) else some (some (.int 0), (S, I, L, R))) := Eq.trans (r_zgt d291_30 rfl) (q_ite (Eq.trans (r_al_n d291_35 rfl) (Eq.trans (r_il_n d291_36 rfl) (Eq.trans (r_il_n d291_37 rfl) (r_cvE (as := [.int x1, .int x2]) (r := []) d291_38 c291_370 ow290 o_t0.2.1 np290.symm rfl (hs_fitE mL290 (Nat.le_of_ble_eq_true rfl)))))) (Eq.trans (r_ic d291_33 kI_0) (r_ri d291_34 rt291)))
theorem b291_41 {t0 : Nat} {x1 x2 s0 : Int32}  : hs_R scr d 291 41 [some (.ref t0), some (.int x1), some (.int x2)] [.int s0] (S, I, L, R) = some (some (.int 1), (S, I, L, R)) := Eq.trans (r_pop d291_41 rfl) (Eq.trans (r_ic d291_42 kI_1) (r_ri d291_43 rt291))
theorem e292 {t0 : Nat} {x1 : Int32} {x2 : Int32} : hs_C scr d 292 [.ref t0, .int x1, .int x2] h = hs_R scr d 292 0 [some (.ref t0), some (.int x1), some (.int x2), none, none, none, none] [] h := by rw [hs_C, mL292]; rfl
theorem b292_0 {t0 : Nat} {x1 x2 : Int32}  : hs_R scr d 292 0 [some (.ref t0), some (.int x1), some (.int x2), none, none, none, none] [] (S, I, L, R) = hs_R scr d 292 5 [some (.ref t0), some (.int x1), some (.int x2), some (.int 0), some (.int 0), none, none] [] (S, I, L, R) := Eq.trans (r_ic d292_0 kI_0) (Eq.trans (r_is_n (loc' := [some (.ref t0), some (.int x1), some (.int x2), some (.int 0), none, none, none]) d292_1 rfl) (Eq.trans (r_ic d292_2 kI_0) (Eq.trans (r_is (loc' := [some (.ref t0), some (.int x1), some (.int x2), some (.int 0), some (.int 0), none, none]) d292_3 rfl) (rfl))))
theorem b292_5 {t0 : Nat} {x1 x2 x3 x4 : Int32} {w5 w6 : Option Value} (o_t0 : ok11 S R t0) : hs_R scr d 292 5 [some (.ref t0), some (.int x1), some (.int x2), some (.int x3), some (.int x4), w5, w6] [] (S, I, L, R) = (if (I (t0 + 5) 1) ≤ x4 then some (some (.int x3), (S, I, L, R)) else (if hs_ib ((47 : Int32) + x4) 1995 = true then (if hs_ib ((47 : Int32) + x4) 1995 = true then (if hs_ib ((10 : Int32) + x1) 1995 = true then (if (if 0 ≤ ((I (t0 + 5) (Int32.toNatClampNeg ((47 : Int32) + x4))) - (I (t0 + 5) (Int32.toNatClampNeg ((10 : Int32) + x1)))) then ((I (t0 + 5) (Int32.toNatClampNeg ((47 : Int32) + x4))) - (I (t0 + 5) (Int32.toNatClampNeg ((10 : Int32) + x1)))) else 0 - ((I (t0 + 5) (Int32.toNatClampNeg ((47 : Int32) + x4))) - (I (t0 + 5) (Int32.toNatClampNeg ((10 : Int32) + x1))))) ≤ (if 0 ≤ ((I (t0 + 5) (Int32.toNatClampNeg ((47 : Int32) + x4))) - x2) then ((I (t0 + 5) (Int32.toNatClampNeg ((47 : Int32) + x4))) - x2) else 0 - ((I (t0 + 5) (Int32.toNatClampNeg ((47 : Int32) + x4))) - x2)) then (if (if 0 ≤ ((I (t0 + 5) (Int32.toNatClampNeg ((47 : Int32) + x4))) - x2) then ((I (t0 + 5) (Int32.toNatClampNeg ((47 : Int32) + x4))) - x2) else 0 - ((I (t0 + 5) (Int32.toNatClampNeg ((47 : Int32) + x4))) - x2)) ≤ (if 0 ≤ ((I (t0 + 5) (Int32.toNatClampNeg ((47 : Int32) + x4))) - (I (t0 + 5) (Int32.toNatClampNeg ((10 : Int32) + x1)))) then ((I (t0 + 5) (Int32.toNatClampNeg ((47 : Int32) + x4))) - (I (t0 + 5) (Int32.toNatClampNeg ((10 : Int32) + x1)))) else 0 - ((I (t0 + 5) (Int32.toNatClampNeg ((47 : Int32) + x4))) - (I (t0 + 5) (Int32.toNatClampNeg ((10 : Int32) + x1))))) then hs_R scr d 292 101 [some (.ref t0), some (.int x1), some (.int x2), some (.int x3), some (.int x4), some (.int (if 0 ≤ ((I (t0 + 5) (Int32.toNatClampNeg ((47 : Int32) + x4))) - x2) then ((I (t0 + 5) (Int32.toNatClampNeg ((47 : Int32) + x4))) - x2) else 0 - ((I (t0 + 5) (Int32.toNatClampNeg ((47 : Int32) + x4))) - x2))), some (.int (if 0 ≤ ((I (t0 + 5) (Int32.toNatClampNeg ((47 : Int32) + x4))) - (I (t0 + 5) (Int32.toNatClampNeg ((10 : Int32) + x1)))) then ((I (t0 + 5) (Int32.toNatClampNeg ((47 : Int32) + x4))) - (I (t0 + 5) (Int32.toNatClampNeg ((10 : Int32) + x1)))) else 0 - ((I (t0 + 5) (Int32.toNatClampNeg ((47 : Int32) + x4))) - (I (t0 + 5) (Int32.toNatClampNeg ((10 : Int32) + x1))))))] [.int 0, .int x3] (S, I, L, R) else (if hs_ib ((42 : Int32) + x4) 1995 = true then hs_R scr d 292 101 [some (.ref t0), some (.int x1), some (.int x2), some (.int x3), some (.int x4), some (.int (if 0 ≤ ((I (t0 + 5) (Int32.toNatClampNeg ((47 : Int32) + x4))) - x2) then ((I (t0 + 5) (Int32.toNatClampNeg ((47 : Int32) + x4))) - x2) else 0 - ((I (t0 + 5) (Int32.toNatClampNeg ((47 : Int32) + x4))) - x2))), some (.int (if 0 ≤ ((I (t0 + 5) (Int32.toNatClampNeg ((47 : Int32) + x4))) - (I (t0 + 5) (Int32.toNatClampNeg ((10 : Int32) + x1)))) then ((I (t0 + 5) (Int32.toNatClampNeg ((47 : Int32) + x4))) - (I (t0 + 5) (Int32.toNatClampNeg ((10 : Int32) + x1)))) else 0 - ((I (t0 + 5) (Int32.toNatClampNeg ((47 : Int32) + x4))) - (I (t0 + 5) (Int32.toNatClampNeg ((10 : Int32) + x1))))))] [.int (-(I (t0 + 5) (Int32.toNatClampNeg ((42 : Int32) + x4)))), .int x3] (S, I, L, R) else none)) else (if hs_ib ((42 : Int32) + x4) 1995 = true then hs_R scr d 292 101 [some (.ref t0), some (.int x1), some (.int x2), some (.int x3), some (.int x4), some (.int (if 0 ≤ ((I (t0 + 5) (Int32.toNatClampNeg ((47 : Int32) + x4))) - x2) then ((I (t0 + 5) (Int32.toNatClampNeg ((47 : Int32) + x4))) - x2) else 0 - ((I (t0 + 5) (Int32.toNatClampNeg ((47 : Int32) + x4))) - x2))), some (.int (if 0 ≤ ((I (t0 + 5) (Int32.toNatClampNeg ((47 : Int32) + x4))) - (I (t0 + 5) (Int32.toNatClampNeg ((10 : Int32) + x1)))) then ((I (t0 + 5) (Int32.toNatClampNeg ((47 : Int32) + x4))) - (I (t0 + 5) (Int32.toNatClampNeg ((10 : Int32) + x1)))) else 0 - ((I (t0 + 5) (Int32.toNatClampNeg ((47 : Int32) + x4))) - (I (t0 + 5) (Int32.toNatClampNeg ((10 : Int32) + x1))))))] [.int (I (t0 + 5) (Int32.toNatClampNeg ((42 : Int32) + x4))), .int x3] (S, I, L, R) else none)) else none) else none) else none)) := Eq.trans (r_il d292_5 rfl) (Eq.trans (r_al_n d292_7 rfl) (Eq.trans (r_getRe d292_8 f292_35 o_t0.2.1 (o_t0.2.2.2.2.2.2.2.2.2.2.1) (Nat.le_trans o_t0.1 (Nat.le_add_right _ _))) (Eq.trans (r_ic d292_11 kI_1) (Eq.trans ((r_ialdC d292_12 (o_t0.2.2.2.2.2.2.2.2.2.2.2.1) ib_1_1995 tn_1)) (Eq.trans (r_cge d292_13 rfl) (q_ite (Eq.trans (r_il_n d292_109 rfl) (r_ri d292_110 rt292)) (Eq.trans (r_al_n d292_16 rfl) (Eq.trans (r_getRe d292_17 f292_35 o_t0.2.1 (o_t0.2.2.2.2.2.2.2.2.2.2.1) (Nat.le_trans o_t0.1 (Nat.le_add_right _ _))) (Eq.trans (r_bp d292_20 kB_47) (Eq.trans (r_il d292_22 rfl) (Eq.trans (r_iadd d292_24) (Eq.trans (r_iald d292_25 (o_t0.2.2.2.2.2.2.2.2.2.2.2.1)) (q_ite (Eq.trans (r_il_n d292_26 rfl) (Eq.trans (r_isub d292_27) (Eq.trans (r_abs d292_28 c292_373 rfl) (Eq.trans (r_is (loc' := [some (.ref t0), some (.int x1), some (.int x2), some (.int x3), some (.int x4), some (.int (if 0 ≤ ((I (t0 + 5) (Int32.toNatClampNeg ((47 : Int32) + x4))) - x2) then ((I (t0 + 5) (Int32.toNatClampNeg ((47 : Int32) + x4))) - x2) else 0 - ((I (t0 + 5) (Int32.toNatClampNeg ((47 : Int32) + x4))) - x2))), w6]) d292_31 rfl) (Eq.trans (r_al_n d292_33 rfl) (Eq.trans (r_getRe d292_34 f292_35 o_t0.2.1 (o_t0.2.2.2.2.2.2.2.2.2.2.1) (Nat.le_trans o_t0.1 (Nat.le_add_right _ _))) (Eq.trans (r_bp d292_37 kB_47) (Eq.trans (r_il d292_39 rfl) (Eq.trans (r_iadd d292_41) (Eq.trans (r_iald d292_42 (o_t0.2.2.2.2.2.2.2.2.2.2.2.1)) (q_ite (Eq.trans (r_al_n d292_43 rfl) (Eq.trans (r_getRe d292_44 f292_35 o_t0.2.1 (o_t0.2.2.2.2.2.2.2.2.2.2.1) (Nat.le_trans o_t0.1 (Nat.le_add_right _ _))) (Eq.trans (r_bp d292_47 kB_10) (Eq.trans (r_il_n d292_49 rfl) (Eq.trans (r_iadd d292_50) (Eq.trans (r_iald d292_51 (o_t0.2.2.2.2.2.2.2.2.2.2.2.1)) (q_ite (Eq.trans (r_isub d292_52) (Eq.trans (r_abs d292_53 c292_373 rfl) (Eq.trans (r_is (loc' := [some (.ref t0), some (.int x1), some (.int x2), some (.int x3), some (.int x4), some (.int (if 0 ≤ ((I (t0 + 5) (Int32.toNatClampNeg ((47 : Int32) + x4))) - x2) then ((I (t0 + 5) (Int32.toNatClampNeg ((47 : Int32) + x4))) - x2) else 0 - ((I (t0 + 5) (Int32.toNatClampNeg ((47 : Int32) + x4))) - x2))), some (.int (if 0 ≤ ((I (t0 + 5) (Int32.toNatClampNeg ((47 : Int32) + x4))) - (I (t0 + 5) (Int32.toNatClampNeg ((10 : Int32) + x1)))) then ((I (t0 + 5) (Int32.toNatClampNeg ((47 : Int32) + x4))) - (I (t0 + 5) (Int32.toNatClampNeg ((10 : Int32) + x1)))) else 0 - ((I (t0 + 5) (Int32.toNatClampNeg ((47 : Int32) + x4))) - (I (t0 + 5) (Int32.toNatClampNeg ((10 : Int32) + x1))))))]) d292_56 rfl) (Eq.trans (r_il_n d292_58 rfl) (Eq.trans (r_il d292_59 rfl) (Eq.trans (r_il d292_61 rfl) (Eq.trans (r_cge d292_63 rfl) (q_ite (Eq.trans (r_il d292_79 rfl) (Eq.trans (r_il d292_81 rfl) (Eq.trans (r_cle d292_83 rfl) (q_ite (Eq.trans (r_ic d292_100 kI_0) (rfl)) (Eq.trans (r_al_n d292_86 rfl) (Eq.trans (r_getRe d292_87 f292_35 o_t0.2.1 (o_t0.2.2.2.2.2.2.2.2.2.2.1) (Nat.le_trans o_t0.1 (Nat.le_add_right _ _))) (Eq.trans (r_bp d292_90 kB_42) (Eq.trans (r_il d292_92 rfl) (Eq.trans (r_iadd d292_94) (Eq.trans (r_iald d292_95 (o_t0.2.2.2.2.2.2.2.2.2.2.2.1)) (q_ite (Eq.trans (r_ineg d292_96) (Eq.trans (r_goto d292_97 rfl) (rfl))) rfl))))))))))) (Eq.trans (r_al_n d292_66 rfl) (Eq.trans (r_getRe d292_67 f292_35 o_t0.2.1 (o_t0.2.2.2.2.2.2.2.2.2.2.1) (Nat.le_trans o_t0.1 (Nat.le_add_right _ _))) (Eq.trans (r_bp d292_70 kB_42) (Eq.trans (r_il d292_72 rfl) (Eq.trans (r_iadd d292_74) (Eq.trans (r_iald d292_75 (o_t0.2.2.2.2.2.2.2.2.2.2.2.1)) (q_ite (Eq.trans (r_goto d292_76 rfl) (rfl)) rfl))))))))))))))) rfl))))))) rfl))))))))))) rfl)))))))))))))
theorem b292_101 {t0 : Nat} {x1 x2 x3 x4 x5 x6 s0 s1 : Int32}  : hs_R scr d 292 101 [some (.ref t0), some (.int x1), some (.int x2), some (.int x3), some (.int x4), some (.int x5), some (.int x6)] [.int s1, .int s0] (S, I, L, R) = hs_R scr d 292 5 [some (.ref t0), some (.int x1), some (.int x2), some (.int (s0 + s1)), some (.int (x4 + 1)), some (.int x5), some (.int x6)] [] (S, I, L, R) := Eq.trans (r_iadd d292_101) (Eq.trans (r_is_n (loc' := [some (.ref t0), some (.int x1), some (.int x2), some (.int (s0 + s1)), some (.int x4), some (.int x5), some (.int x6)]) d292_102 rfl) (Eq.trans (r_inc (loc' := [some (.ref t0), some (.int x1), some (.int x2), some (.int (s0 + s1)), some (.int (x4 + 1)), some (.int x5), some (.int x6)]) d292_103 kI_1 rfl rfl) (Eq.trans (r_goto d292_106 rfl) (rfl))))
theorem e293 {t0 : Nat} : hs_C scr d 293 [.ref t0] h = hs_R scr d 293 0 [some (.ref t0)] [] h := by rw [hs_C, mL293]; rfl
theorem b293_0 {t0 : Nat} (o_t0 : ok11 S R t0) : hs_R scr (d + 1) 293 0 [some (.ref t0)] [] (S, I, L, R) = ((hs_C scr d 294 [.ref t0] (S, (hs_u (hs_u I t0 1 0) t0 0 0), L, R)).bind fun o => hs_R scr (d + 1) 293 14 [some (.ref t0)] (o.1.toList ++ []) o.2) := Eq.trans (r_al_n d293_0 rfl) (Eq.trans (r_ic d293_1 kI_0) (Eq.trans (r_putI d293_2 f293_60 o_t0.2.1) (Eq.trans (r_al_n d293_5 rfl) (Eq.trans (r_ic d293_6 kI_0) (Eq.trans (r_putI d293_7 f293_63 o_t0.2.1) (Eq.trans (r_al_n d293_10 rfl) (r_cvE (as := []) (r := []) d293_11 c293_378 ow294 o_t0.2.1 np294.symm rfl (hs_fitE mL294 (Nat.le_of_ble_eq_true rfl)))))))))
theorem b293_14 {t0 : Nat} {s0 : Int32} (o_t0 : ok11 S R t0) : hs_R scr (d + 1) 293 14 [some (.ref t0)] [.int s0] (S, I, L, R) = (if s0 = 0 then ((hs_C scr d 265 [.ref t0, .int 9] (S, I, L, R)).bind fun o => hs_R scr (d + 1) 293 33 [some (.ref t0)] (o.1.toList ++ []) o.2) else hs_R scr (d + 1) 293 33 [some (.ref t0)] [.int (I (t0 + 5) 58)] (S, I, L, R)) := Eq.trans (r_zeq d293_14 rfl) (q_ite (Eq.trans (r_al_n d293_27 rfl) (Eq.trans (r_bp d293_28 kB_9) (r_cvE (as := [.int 9]) (r := []) d293_30 c293_322 ow265 o_t0.2.1 np265.symm rfl (hs_fitE mL265 (Nat.le_of_ble_eq_true rfl))))) (Eq.trans (r_al_n d293_17 rfl) (Eq.trans (r_getRe d293_18 f293_35 o_t0.2.1 (o_t0.2.2.2.2.2.2.2.2.2.2.1) (Nat.le_trans o_t0.1 (Nat.le_add_right _ _))) (Eq.trans (r_bp d293_21 kB_58) (Eq.trans ((r_ialdC d293_23 (o_t0.2.2.2.2.2.2.2.2.2.2.2.1) ib_58_1995 tn_58)) (Eq.trans (r_goto d293_24 rfl) (rfl)))))))
theorem b293_33 {t0 : Nat} {s0 : Int32}  : hs_R scr d 293 33 [some (.ref t0)] [.int s0] (S, I, L, R) = some (some (.int s0), (S, I, L, R)) := r_ri d293_33 rt293
theorem e294 {t0 : Nat} : hs_C scr d 294 [.ref t0] h = hs_R scr d 294 0 [some (.ref t0)] [] h := by rw [hs_C, mL294]; rfl
theorem b294_0 {t0 : Nat} (o_t0 : ok11 S R t0) : hs_R scr d 294 0 [some (.ref t0)] [] (S, I, L, R) = (if ((I (t0 + 5) 58) + 1) < (I (t0 + 5) 2) then some (some (.int 1), (S, (hs_u I (t0 + 5) 58 ((I (t0 + 5) 58) + 1)), L, R)) else some (some (.int 0), (S, I, L, R))) := Eq.trans (r_al_n d294_0 rfl) (Eq.trans (r_getRe d294_1 f294_35 o_t0.2.1 (o_t0.2.2.2.2.2.2.2.2.2.2.1) (Nat.le_trans o_t0.1 (Nat.le_add_right _ _))) (Eq.trans (r_bp d294_4 kB_58) (Eq.trans ((r_ialdC d294_6 (o_t0.2.2.2.2.2.2.2.2.2.2.2.1) ib_58_1995 tn_58)) (Eq.trans (r_ic d294_7 kI_1) (Eq.trans (r_iadd d294_8) (Eq.trans (r_al_n d294_9 rfl) (Eq.trans (r_getRe d294_10 f294_35 o_t0.2.1 (o_t0.2.2.2.2.2.2.2.2.2.2.1) (Nat.le_trans o_t0.1 (Nat.le_add_right _ _))) (Eq.trans (r_ic d294_13 kI_2) (Eq.trans ((r_ialdC d294_14 (o_t0.2.2.2.2.2.2.2.2.2.2.2.1) ib_2_1995 tn_2)) (Eq.trans (r_clt d294_15 rfl) (q_ite (Eq.trans (r_al_n d294_20 rfl) (Eq.trans (r_getRe d294_21 f294_35 o_t0.2.1 (o_t0.2.2.2.2.2.2.2.2.2.2.1) (Nat.le_trans o_t0.1 (Nat.le_add_right _ _))) (Eq.trans (r_bp d294_24 kB_58) (Eq.trans (r_dup2 d294_26 ⟨rfl, rfl⟩) (Eq.trans ((r_ialdC d294_27 (o_t0.2.2.2.2.2.2.2.2.2.2.2.1) ib_58_1995 tn_58)) (Eq.trans (r_ic d294_28 kI_1) (Eq.trans (r_iadd d294_29) (Eq.trans ((r_iastC d294_30 (o_t0.2.2.2.2.2.2.2.2.2.2.2.1) ib_58_1995 tn_58)) (Eq.trans (r_ic d294_31 kI_1) ((r_rz d294_32 rt294).trans (if_pos (Or.inr rfl)))))))))))) (Eq.trans (r_ic d294_18 kI_0) ((r_rz d294_19 rt294).trans (if_pos (Or.inl rfl)))))))))))))))
theorem e295 {t0 : Nat} {x1 : Int32} {x2 : Int32} : hs_C scr d 295 [.ref t0, .int x1, .int x2] h = hs_R scr d 295 0 [some (.ref t0), some (.int x1), some (.int x2)] [] h := by rw [hs_C, mL295]; rfl
theorem b295_0 {t0 : Nat} {x1 x2 : Int32} (o_t0 : ok11 S R t0) : hs_R scr (d + 1) 295 0 [some (.ref t0), some (.int x1), some (.int x2)] [] (S, I, L, R) = ((hs_C scr d 272 [.ref t0, .int x1] (S, (hs_u (hs_u I t0 1 0) t0 0 0), L, R)).bind fun o => hs_R scr (d + 1) 295 15 [some (.ref t0), some (.int x1), some (.int x2)] (o.1.toList ++ []) o.2) := Eq.trans (r_al_n d295_0 rfl) (Eq.trans (r_ic d295_1 kI_0) (Eq.trans (r_putI d295_2 f295_60 o_t0.2.1) (Eq.trans (r_al_n d295_5 rfl) (Eq.trans (r_ic d295_6 kI_0) (Eq.trans (r_putI d295_7 f295_63 o_t0.2.1) (Eq.trans (r_al_n d295_10 rfl) (Eq.trans (r_il_n d295_11 rfl) (r_cvE (as := [.int x1]) (r := []) d295_12 c295_340 ow272 o_t0.2.1 np272.symm rfl (hs_fitE mL272 (Nat.le_of_ble_eq_true rfl))))))))))
theorem b295_15 {t0 : Nat} {x1 x2 s0 : Int32} (o_t0 : ok11 S R t0) : hs_R scr (d + 1) 295 15 [some (.ref t0), some (.int x1), some (.int x2)] [.int s0] (S, I, L, R) = (if s0 = 0 then ((hs_C scr d 197 [.ref t0, .int 2] (S, I, L, R)).bind fun o => hs_R scr (d + 1) 295 23 [some (.ref t0), some (.int x1), some (.int x2)] (o.1.toList ++ []) o.2) else ((hs_C scr d 223 [.long (Int32.toInt64 x2), .long 0, .long 2] (S, I, L, R)).bind fun o => hs_R scr (d + 1) 295 33 [some (.ref t0), some (.int x1), some (.int x2)] (o.1.toList ++ []) o.2)) := Eq.trans (r_zne d295_15 rfl) (q_ite (Eq.trans (r_al_n d295_18 rfl) (Eq.trans (r_ic d295_19 kI_2) (r_cvE (as := [.int 2]) (r := []) d295_20 c295_75 ow197 o_t0.2.1 np197.symm rfl (hs_fitE mL197 (Nat.le_of_ble_eq_true rfl))))) (Eq.trans (r_il_n d295_24 rfl) (Eq.trans (r_i2l d295_25) (Eq.trans (r_lc d295_26 kL_0) (Eq.trans (r_ldc2 d295_27 cl295_381) (r_cs (as := [.long (Int32.toInt64 x2), .long 0, .long 2]) (r := []) d295_30 c295_95 np223.symm rfl (hs_fitE mL223 (Nat.le_of_ble_eq_true rfl))))))))
theorem b295_23 {t0 : Nat} {x1 x2 s0 : Int32}  : hs_R scr d 295 23 [some (.ref t0), some (.int x1), some (.int x2)] [.int s0] (S, I, L, R) = (if s0 = 0 ∨ s0 = 1 then some (some (.int s0), (S, I, L, R)) else none) := r_rz d295_23 rt295
theorem b295_33 {t0 : Nat} {x1 x2 s0 : Int32} (o_t0 : ok11 S R t0) : hs_R scr (d + 1) 295 33 [some (.ref t0), some (.int x1), some (.int x2)] [.int s0] (S, I, L, R) = (if s0 = 0 then ((hs_C scr d 197 [.ref t0, .int 5] (S, I, L, R)).bind fun o => hs_R scr (d + 1) 295 41 [some (.ref t0), some (.int x1), some (.int x2)] (o.1.toList ++ []) o.2) else ((hs_C scr d 286 [.ref t0, .int ((26 : Int32) + x1), .int x2] (S, I, L, R)).bind fun o => hs_R scr (d + 1) 295 51 [some (.ref t0), some (.int x1), some (.int x2)] (o.1.toList ++ []) o.2)) := Eq.trans (r_zne d295_33 rfl) (q_ite (Eq.trans (r_al_n d295_36 rfl) (Eq.trans (r_ic d295_37 kI_5) (r_cvE (as := [.int 5]) (r := []) d295_38 c295_75 ow197 o_t0.2.1 np197.symm rfl (hs_fitE mL197 (Nat.le_of_ble_eq_true rfl))))) (Eq.trans (r_al_n d295_42 rfl) (Eq.trans (r_bp d295_43 kB_26) (Eq.trans (r_il_n d295_45 rfl) (Eq.trans (r_iadd d295_46) (Eq.trans (r_il_n d295_47 rfl) (r_cvE (as := [.int ((26 : Int32) + x1), .int x2]) (r := []) d295_48 c295_364 ow286 o_t0.2.1 np286.symm rfl (hs_fitE mL286 (Nat.le_of_ble_eq_true rfl)))))))))
theorem b295_41 {t0 : Nat} {x1 x2 s0 : Int32}  : hs_R scr d 295 41 [some (.ref t0), some (.int x1), some (.int x2)] [.int s0] (S, I, L, R) = (if s0 = 0 ∨ s0 = 1 then some (some (.int s0), (S, I, L, R)) else none) := r_rz d295_41 rt295
theorem b295_51 {t0 : Nat} {x1 x2 s0 : Int32} (o_t0 : ok11 S R t0) : hs_R scr (d + 1) 295 51 [some (.ref t0), some (.int x1), some (.int x2)] [.int s0] (S, I, L, R) = (if s0 = 0 then ((hs_C scr d 197 [.ref t0, .int 9] (S, I, L, R)).bind fun o => hs_R scr (d + 1) 295 60 [some (.ref t0), some (.int x1), some (.int x2)] (o.1.toList ++ []) o.2) else hs_R scr (d + 1) 295 63 [some (.ref t0), some (.int x1), some (.int x2)] [] (S, I, L, R)) := Eq.trans (r_zne d295_51 rfl) (q_ite (Eq.trans (r_al_n d295_54 rfl) (Eq.trans (r_bp d295_55 kB_9) (r_cvE (as := [.int 9]) (r := []) d295_57 c295_75 ow197 o_t0.2.1 np197.symm rfl (hs_fitE mL197 (Nat.le_of_ble_eq_true rfl))))) (rfl))
theorem b295_60 {t0 : Nat} {x1 x2 s0 : Int32}  : hs_R scr d 295 60 [some (.ref t0), some (.int x1), some (.int x2)] [.int s0] (S, I, L, R) = (if s0 = 0 then hs_R scr d 295 68 [some (.ref t0), some (.int x1), some (.int x2)] [.int 0] (S, I, L, R) else hs_R scr d 295 63 [some (.ref t0), some (.int x1), some (.int x2)] [] (S, I, L, R)) := Eq.trans (r_zeq d295_60 rfl) (q_ite (Eq.trans (r_ic d295_67 kI_0) (rfl)) (rfl))
theorem b295_63 {t0 : Nat} {x1 x2 : Int32}  : hs_R scr d 295 63 [some (.ref t0), some (.int x1), some (.int x2)] [] (S, I, L, R) = hs_R scr d 295 68 [some (.ref t0), some (.int x1), some (.int x2)] [.int 1] (S, I, L, R) := Eq.trans (r_ic d295_63 kI_1) (Eq.trans (r_goto d295_64 rfl) (rfl))
theorem b295_68 {t0 : Nat} {x1 x2 s0 : Int32}  : hs_R scr d 295 68 [some (.ref t0), some (.int x1), some (.int x2)] [.int s0] (S, I, L, R) = (if s0 = 0 ∨ s0 = 1 then some (some (.int s0), (S, I, L, R)) else none) := r_rz d295_68 rt295
theorem e296 {t0 : Nat} {x1 : Int32} {x2 : Int32} : hs_C scr d 296 [.ref t0, .int x1, .int x2] h = hs_R scr d 296 0 [some (.ref t0), some (.int x1), some (.int x2)] [] h := by rw [hs_C, mL296]; rfl
theorem b296_0 {t0 : Nat} {x1 x2 : Int32} (o_t0 : ok11 S R t0) : hs_R scr (d + 1) 296 0 [some (.ref t0), some (.int x1), some (.int x2)] [] (S, I, L, R) = ((hs_C scr d 274 [.ref t0, .int x1] (S, (hs_u (hs_u I t0 1 0) t0 0 0), L, R)).bind fun o => hs_R scr (d + 1) 296 15 [some (.ref t0), some (.int x1), some (.int x2)] (o.1.toList ++ []) o.2) := Eq.trans (r_al_n d296_0 rfl) (Eq.trans (r_ic d296_1 kI_0) (Eq.trans (r_putI d296_2 f296_60 o_t0.2.1) (Eq.trans (r_al_n d296_5 rfl) (Eq.trans (r_ic d296_6 kI_0) (Eq.trans (r_putI d296_7 f296_63 o_t0.2.1) (Eq.trans (r_al_n d296_10 rfl) (Eq.trans (r_il_n d296_11 rfl) (r_cvE (as := [.int x1]) (r := []) d296_12 c296_343 ow274 o_t0.2.1 np274.symm rfl (hs_fitE mL274 (Nat.le_of_ble_eq_true rfl))))))))))
theorem b296_15 {t0 : Nat} {x1 x2 s0 : Int32} (o_t0 : ok11 S R t0) : hs_R scr (d + 1) 296 15 [some (.ref t0), some (.int x1), some (.int x2)] [.int s0] (S, I, L, R) = (if s0 = 0 then ((hs_C scr d 197 [.ref t0, .int 2] (S, I, L, R)).bind fun o => hs_R scr (d + 1) 296 23 [some (.ref t0), some (.int x1), some (.int x2)] (o.1.toList ++ []) o.2) else ((hs_C scr d 223 [.long (Int32.toInt64 x2), .long 1, .long 99] (S, I, L, R)).bind fun o => hs_R scr (d + 1) 296 33 [some (.ref t0), some (.int x1), some (.int x2)] (o.1.toList ++ []) o.2)) := Eq.trans (r_zne d296_15 rfl) (q_ite (Eq.trans (r_al_n d296_18 rfl) (Eq.trans (r_ic d296_19 kI_2) (r_cvE (as := [.int 2]) (r := []) d296_20 c296_75 ow197 o_t0.2.1 np197.symm rfl (hs_fitE mL197 (Nat.le_of_ble_eq_true rfl))))) (Eq.trans (r_il_n d296_24 rfl) (Eq.trans (r_i2l d296_25) (Eq.trans (r_lc d296_26 kL_1) (Eq.trans (r_ldc2 d296_27 cl296_359) (r_cs (as := [.long (Int32.toInt64 x2), .long 1, .long 99]) (r := []) d296_30 c296_95 np223.symm rfl (hs_fitE mL223 (Nat.le_of_ble_eq_true rfl))))))))
theorem b296_23 {t0 : Nat} {x1 x2 s0 : Int32}  : hs_R scr d 296 23 [some (.ref t0), some (.int x1), some (.int x2)] [.int s0] (S, I, L, R) = (if s0 = 0 ∨ s0 = 1 then some (some (.int s0), (S, I, L, R)) else none) := r_rz d296_23 rt296
theorem b296_33 {t0 : Nat} {x1 x2 s0 : Int32} (o_t0 : ok11 S R t0) : hs_R scr (d + 1) 296 33 [some (.ref t0), some (.int x1), some (.int x2)] [.int s0] (S, I, L, R) = (if s0 = 0 then ((hs_C scr d 197 [.ref t0, .int 5] (S, I, L, R)).bind fun o => hs_R scr (d + 1) 296 41 [some (.ref t0), some (.int x1), some (.int x2)] (o.1.toList ++ []) o.2) else (if hs_ib ((42 : Int32) + x1) 1995 = true then some (some (.int 1), (S, (hs_u I (t0 + 5) (Int32.toNatClampNeg ((42 : Int32) + x1)) x2), L, R)) else none)) := Eq.trans (r_zne d296_33 rfl) (q_ite (Eq.trans (r_al_n d296_36 rfl) (Eq.trans (r_ic d296_37 kI_5) (r_cvE (as := [.int 5]) (r := []) d296_38 c296_75 ow197 o_t0.2.1 np197.symm rfl (hs_fitE mL197 (Nat.le_of_ble_eq_true rfl))))) (Eq.trans (r_al_n d296_42 rfl) (Eq.trans (r_getRe d296_43 f296_35 o_t0.2.1 (o_t0.2.2.2.2.2.2.2.2.2.2.1) (Nat.le_trans o_t0.1 (Nat.le_add_right _ _))) (Eq.trans (r_bp d296_46 kB_42) (Eq.trans (r_il_n d296_48 rfl) (Eq.trans (r_iadd d296_49) (Eq.trans (r_il_n d296_50 rfl) (Eq.trans (r_iast d296_51 (o_t0.2.2.2.2.2.2.2.2.2.2.2.1)) (q_ite (Eq.trans (r_ic d296_52 kI_1) ((r_rz d296_53 rt296).trans (if_pos (Or.inr rfl)))) rfl)))))))))
theorem b296_41 {t0 : Nat} {x1 x2 s0 : Int32}  : hs_R scr d 296 41 [some (.ref t0), some (.int x1), some (.int x2)] [.int s0] (S, I, L, R) = (if s0 = 0 ∨ s0 = 1 then some (some (.int s0), (S, I, L, R)) else none) := r_rz d296_41 rt296
theorem e297 {t0 : Nat} {x1 : Int32} {x2 : Int32} : hs_C scr d 297 [.ref t0, .int x1, .int x2] h = hs_R scr d 297 0 [some (.ref t0), some (.int x1), some (.int x2)] [] h := by rw [hs_C, mL297]; rfl
theorem b297_0 {t0 : Nat} {x1 x2 : Int32} (o_t0 : ok11 S R t0) : hs_R scr (d + 1) 297 0 [some (.ref t0), some (.int x1), some (.int x2)] [] (S, I, L, R) = ((hs_C scr d 223 [.long (Int32.toInt64 x1), .long 6, .long 7] (S, (hs_u (hs_u I t0 1 0) t0 0 0), L, R)).bind fun o => hs_R scr (d + 1) 297 21 [some (.ref t0), some (.int x1), some (.int x2)] (o.1.toList ++ []) o.2) := Eq.trans (r_al_n d297_0 rfl) (Eq.trans (r_ic d297_1 kI_0) (Eq.trans (r_putI d297_2 f297_60 o_t0.2.1) (Eq.trans (r_al_n d297_5 rfl) (Eq.trans (r_ic d297_6 kI_0) (Eq.trans (r_putI d297_7 f297_63 o_t0.2.1) (Eq.trans (r_il_n d297_10 rfl) (Eq.trans (r_i2l d297_11) (Eq.trans (r_ldc2 d297_12 cl297_383) (Eq.trans (r_ldc2 d297_15 cl297_385) (r_cs (as := [.long (Int32.toInt64 x1), .long 6, .long 7]) (r := []) d297_18 c297_95 np223.symm rfl (hs_fitE mL223 (Nat.le_of_ble_eq_true rfl))))))))))))
theorem b297_21 {t0 : Nat} {x1 x2 s0 : Int32}  : hs_R scr d 297 21 [some (.ref t0), some (.int x1), some (.int x2)] [.int s0] (S, I, L, R) = (if s0 = 0 then hs_R scr d 297 52 [some (.ref t0), some (.int x1), some (.int x2)] [] (S, I, L, R) else (if x1 = 6 then hs_R scr d 297 46 [some (.ref t0), some (.int x1), some (.int x2)] [.long 16, .long (Int32.toInt64 (x1 - 6)), .long (Int32.toInt64 x2)] (S, I, L, R) else hs_R scr d 297 46 [some (.ref t0), some (.int x1), some (.int x2)] [.long 99, .long (Int32.toInt64 (x1 - 6)), .long (Int32.toInt64 x2)] (S, I, L, R))) := Eq.trans (r_zeq d297_21 rfl) (q_ite (rfl) (Eq.trans (r_il_n d297_24 rfl) (Eq.trans (r_i2l d297_25) (Eq.trans (r_il_n d297_26 rfl) (Eq.trans (r_bp d297_27 kB_6) (Eq.trans (r_isub d297_29) (Eq.trans (r_i2l d297_30) (Eq.trans (r_il_n d297_31 rfl) (Eq.trans (r_bp d297_32 kB_6) (Eq.trans (r_cne d297_34 rfl) (q_ite (Eq.trans (r_ldc2 d297_37 cl297_387) (Eq.trans (r_goto d297_40 rfl) (rfl))) (Eq.trans (r_ldc2 d297_43 cl297_359) (rfl)))))))))))))
theorem b297_46 {t0 : Nat} {x1 x2 : Int32} {v0 v1 v2 : Int64}  : hs_R scr (d + 1) 297 46 [some (.ref t0), some (.int x1), some (.int x2)] [.long v2, .long v1, .long v0] (S, I, L, R) = ((hs_C scr d 223 [.long v0, .long v1, .long v2] (S, I, L, R)).bind fun o => hs_R scr (d + 1) 297 49 [some (.ref t0), some (.int x1), some (.int x2)] (o.1.toList ++ []) o.2) := r_cs (as := [.long v0, .long v1, .long v2]) (r := []) d297_46 c297_95 np223.symm rfl (hs_fitE mL223 (Nat.le_of_ble_eq_true rfl))
theorem b297_49 {t0 : Nat} {x1 x2 s0 : Int32} (o_t0 : ok11 S R t0) : hs_R scr d 297 49 [some (.ref t0), some (.int x1), some (.int x2)] [.int s0] (S, I, L, R) = (if s0 = 0 then hs_R scr d 297 52 [some (.ref t0), some (.int x1), some (.int x2)] [] (S, I, L, R) else (if hs_ib x1 1995 = true then some (some (.int 1), (S, (hs_u I (t0 + 5) (Int32.toNatClampNeg x1) x2), L, R)) else none)) := Eq.trans (r_zne d297_49 rfl) (q_ite (rfl) (Eq.trans (r_al_n d297_58 rfl) (Eq.trans (r_getRe d297_59 f297_35 o_t0.2.1 (o_t0.2.2.2.2.2.2.2.2.2.2.1) (Nat.le_trans o_t0.1 (Nat.le_add_right _ _))) (Eq.trans (r_il_n d297_62 rfl) (Eq.trans (r_il_n d297_63 rfl) (Eq.trans (r_iast d297_64 (o_t0.2.2.2.2.2.2.2.2.2.2.2.1)) (q_ite (Eq.trans (r_ic d297_65 kI_1) ((r_rz d297_66 rt297).trans (if_pos (Or.inr rfl)))) rfl)))))))
theorem b297_52 {t0 : Nat} {x1 x2 : Int32} (o_t0 : ok11 S R t0) : hs_R scr (d + 1) 297 52 [some (.ref t0), some (.int x1), some (.int x2)] [] (S, I, L, R) = ((hs_C scr d 197 [.ref t0, .int 5] (S, I, L, R)).bind fun o => hs_R scr (d + 1) 297 57 [some (.ref t0), some (.int x1), some (.int x2)] (o.1.toList ++ []) o.2) := Eq.trans (r_al_n d297_52 rfl) (Eq.trans (r_ic d297_53 kI_5) (r_cvE (as := [.int 5]) (r := []) d297_54 c297_75 ow197 o_t0.2.1 np197.symm rfl (hs_fitE mL197 (Nat.le_of_ble_eq_true rfl))))
theorem b297_57 {t0 : Nat} {x1 x2 s0 : Int32}  : hs_R scr d 297 57 [some (.ref t0), some (.int x1), some (.int x2)] [.int s0] (S, I, L, R) = (if s0 = 0 ∨ s0 = 1 then some (some (.int s0), (S, I, L, R)) else none) := r_rz d297_57 rt297
theorem e298 {t0 : Nat} {x1 : Int32} {x2 : Int32} {x3 : Int32} : hs_C scr d 298 [.ref t0, .int x1, .int x2, .int x3] h = hs_R scr d 298 0 [some (.ref t0), some (.int x1), some (.int x2), some (.int x3)] [] h := by rw [hs_C, mL298]; rfl
theorem b298_0 {t0 : Nat} {x1 x2 x3 : Int32} (o_t0 : ok11 S R t0) : hs_R scr (d + 1) 298 0 [some (.ref t0), some (.int x1), some (.int x2), some (.int x3)] [] (S, I, L, R) = ((hs_C scr d 278 [.ref t0, .int x1] (S, (hs_u (hs_u I t0 1 0) t0 0 0), L, R)).bind fun o => hs_R scr (d + 1) 298 15 [some (.ref t0), some (.int x1), some (.int x2), some (.int x3)] (o.1.toList ++ []) o.2) := Eq.trans (r_al_n d298_0 rfl) (Eq.trans (r_ic d298_1 kI_0) (Eq.trans (r_putI d298_2 f298_60 o_t0.2.1) (Eq.trans (r_al_n d298_5 rfl) (Eq.trans (r_ic d298_6 kI_0) (Eq.trans (r_putI d298_7 f298_63 o_t0.2.1) (Eq.trans (r_al_n d298_10 rfl) (Eq.trans (r_il_n d298_11 rfl) (r_cvE (as := [.int x1]) (r := []) d298_12 c298_346 ow278 o_t0.2.1 np278.symm rfl (hs_fitE mL278 (Nat.le_of_ble_eq_true rfl))))))))))
theorem b298_15 {t0 : Nat} {x1 x2 x3 s0 : Int32} (o_t0 : ok11 S R t0) : hs_R scr (d + 1) 298 15 [some (.ref t0), some (.int x1), some (.int x2), some (.int x3)] [.int s0] (S, I, L, R) = (if s0 = 0 then hs_R scr (d + 1) 298 26 [some (.ref t0), some (.int x1), some (.int x2), some (.int x3)] [] (S, I, L, R) else ((hs_C scr d 272 [.ref t0, .int x2] (S, I, L, R)).bind fun o => hs_R scr (d + 1) 298 23 [some (.ref t0), some (.int x1), some (.int x2), some (.int x3)] (o.1.toList ++ []) o.2)) := Eq.trans (r_zeq d298_15 rfl) (q_ite (rfl) (Eq.trans (r_al_n d298_18 rfl) (Eq.trans (r_il_n d298_19 rfl) (r_cvE (as := [.int x2]) (r := []) d298_20 c298_340 ow272 o_t0.2.1 np272.symm rfl (hs_fitE mL272 (Nat.le_of_ble_eq_true rfl))))))
theorem b298_23 {t0 : Nat} {x1 x2 x3 s0 : Int32}  : hs_R scr (d + 1) 298 23 [some (.ref t0), some (.int x1), some (.int x2), some (.int x3)] [.int s0] (S, I, L, R) = (if s0 = 0 then hs_R scr (d + 1) 298 26 [some (.ref t0), some (.int x1), some (.int x2), some (.int x3)] [] (S, I, L, R) else ((hs_C scr d 223 [.long (Int32.toInt64 x3), .long 0, .long 3] (S, I, L, R)).bind fun o => hs_R scr (d + 1) 298 41 [some (.ref t0), some (.int x1), some (.int x2), some (.int x3)] (o.1.toList ++ []) o.2)) := Eq.trans (r_zne d298_23 rfl) (q_ite (rfl) (Eq.trans (r_il_n d298_32 rfl) (Eq.trans (r_i2l d298_33) (Eq.trans (r_lc d298_34 kL_0) (Eq.trans (r_ldc2 d298_35 cl298_93) (r_cs (as := [.long (Int32.toInt64 x3), .long 0, .long 3]) (r := []) d298_38 c298_95 np223.symm rfl (hs_fitE mL223 (Nat.le_of_ble_eq_true rfl))))))))
theorem b298_26 {t0 : Nat} {x1 x2 x3 : Int32} (o_t0 : ok11 S R t0) : hs_R scr (d + 1) 298 26 [some (.ref t0), some (.int x1), some (.int x2), some (.int x3)] [] (S, I, L, R) = ((hs_C scr d 197 [.ref t0, .int 2] (S, I, L, R)).bind fun o => hs_R scr (d + 1) 298 31 [some (.ref t0), some (.int x1), some (.int x2), some (.int x3)] (o.1.toList ++ []) o.2) := Eq.trans (r_al_n d298_26 rfl) (Eq.trans (r_ic d298_27 kI_2) (r_cvE (as := [.int 2]) (r := []) d298_28 c298_75 ow197 o_t0.2.1 np197.symm rfl (hs_fitE mL197 (Nat.le_of_ble_eq_true rfl))))
theorem b298_31 {t0 : Nat} {x1 x2 x3 s0 : Int32}  : hs_R scr d 298 31 [some (.ref t0), some (.int x1), some (.int x2), some (.int x3)] [.int s0] (S, I, L, R) = (if s0 = 0 ∨ s0 = 1 then some (some (.int s0), (S, I, L, R)) else none) := r_rz d298_31 rt298
theorem b298_41 {t0 : Nat} {x1 x2 x3 s0 : Int32} (o_t0 : ok11 S R t0) : hs_R scr (d + 1) 298 41 [some (.ref t0), some (.int x1), some (.int x2), some (.int x3)] [.int s0] (S, I, L, R) = (if s0 = 0 then ((hs_C scr d 197 [.ref t0, .int 5] (S, I, L, R)).bind fun o => hs_R scr (d + 1) 298 49 [some (.ref t0), some (.int x1), some (.int x2), some (.int x3)] (o.1.toList ++ []) o.2) else ((hs_C scr d 286 [.ref t0, .int (((59 : Int32) + ((8 : Int32) * x1)) + x2), .int x3] (S, I, L, R)).bind fun o => hs_R scr (d + 1) 298 64 [some (.ref t0), some (.int x1), some (.int x2), some (.int x3)] (o.1.toList ++ []) o.2)) := Eq.trans (r_zne d298_41 rfl) (q_ite (Eq.trans (r_al_n d298_44 rfl) (Eq.trans (r_ic d298_45 kI_5) (r_cvE (as := [.int 5]) (r := []) d298_46 c298_75 ow197 o_t0.2.1 np197.symm rfl (hs_fitE mL197 (Nat.le_of_ble_eq_true rfl))))) (Eq.trans (r_al_n d298_50 rfl) (Eq.trans (r_bp d298_51 kB_59) (Eq.trans (r_bp d298_53 kB_8) (Eq.trans (r_il_n d298_55 rfl) (Eq.trans (r_imul d298_56) (Eq.trans (r_iadd d298_57) (Eq.trans (r_il_n d298_58 rfl) (Eq.trans (r_iadd d298_59) (Eq.trans (r_il_n d298_60 rfl) (r_cvE (as := [.int (((59 : Int32) + ((8 : Int32) * x1)) + x2), .int x3]) (r := []) d298_61 c298_364 ow286 o_t0.2.1 np286.symm rfl (hs_fitE mL286 (Nat.le_of_ble_eq_true rfl)))))))))))))
theorem b298_49 {t0 : Nat} {x1 x2 x3 s0 : Int32}  : hs_R scr d 298 49 [some (.ref t0), some (.int x1), some (.int x2), some (.int x3)] [.int s0] (S, I, L, R) = (if s0 = 0 ∨ s0 = 1 then some (some (.int s0), (S, I, L, R)) else none) := r_rz d298_49 rt298
theorem b298_64 {t0 : Nat} {x1 x2 x3 s0 : Int32} (o_t0 : ok11 S R t0) : hs_R scr (d + 1) 298 64 [some (.ref t0), some (.int x1), some (.int x2), some (.int x3)] [.int s0] (S, I, L, R) = (if s0 = 0 then ((hs_C scr d 197 [.ref t0, .int 9] (S, I, L, R)).bind fun o => hs_R scr (d + 1) 298 73 [some (.ref t0), some (.int x1), some (.int x2), some (.int x3)] (o.1.toList ++ []) o.2) else hs_R scr (d + 1) 298 76 [some (.ref t0), some (.int x1), some (.int x2), some (.int x3)] [] (S, I, L, R)) := Eq.trans (r_zne d298_64 rfl) (q_ite (Eq.trans (r_al_n d298_67 rfl) (Eq.trans (r_bp d298_68 kB_9) (r_cvE (as := [.int 9]) (r := []) d298_70 c298_75 ow197 o_t0.2.1 np197.symm rfl (hs_fitE mL197 (Nat.le_of_ble_eq_true rfl))))) (rfl))
theorem b298_73 {t0 : Nat} {x1 x2 x3 s0 : Int32}  : hs_R scr d 298 73 [some (.ref t0), some (.int x1), some (.int x2), some (.int x3)] [.int s0] (S, I, L, R) = (if s0 = 0 then hs_R scr d 298 81 [some (.ref t0), some (.int x1), some (.int x2), some (.int x3)] [.int 0] (S, I, L, R) else hs_R scr d 298 76 [some (.ref t0), some (.int x1), some (.int x2), some (.int x3)] [] (S, I, L, R)) := Eq.trans (r_zeq d298_73 rfl) (q_ite (Eq.trans (r_ic d298_80 kI_0) (rfl)) (rfl))
theorem b298_76 {t0 : Nat} {x1 x2 x3 : Int32}  : hs_R scr d 298 76 [some (.ref t0), some (.int x1), some (.int x2), some (.int x3)] [] (S, I, L, R) = hs_R scr d 298 81 [some (.ref t0), some (.int x1), some (.int x2), some (.int x3)] [.int 1] (S, I, L, R) := Eq.trans (r_ic d298_76 kI_1) (Eq.trans (r_goto d298_77 rfl) (rfl))
theorem b298_81 {t0 : Nat} {x1 x2 x3 s0 : Int32}  : hs_R scr d 298 81 [some (.ref t0), some (.int x1), some (.int x2), some (.int x3)] [.int s0] (S, I, L, R) = (if s0 = 0 ∨ s0 = 1 then some (some (.int s0), (S, I, L, R)) else none) := r_rz d298_81 rt298
theorem e299 {t0 : Nat} {x1 : Int32} {x2 : Int32} : hs_C scr d 299 [.ref t0, .int x1, .int x2] h = hs_R scr d 299 0 [some (.ref t0), some (.int x1), some (.int x2), none, none] [] h := by rw [hs_C, mL299]; rfl
theorem b299_0 {t0 : Nat} {x1 x2 : Int32} (o_t0 : ok11 S R t0) : hs_R scr (d + 1) 299 0 [some (.ref t0), some (.int x1), some (.int x2), none, none] [] (S, I, L, R) = ((hs_C scr d 223 [.long (Int32.toInt64 x1), .long 0, .long 99] (S, (hs_u (hs_u I t0 1 0) t0 0 0), L, R)).bind fun o => hs_R scr (d + 1) 299 26 [some (.ref t0), some (.int x1), some (.int x2), some (.int ((hs_u (hs_u I t0 1 0) t0 0 0) (t0 + 5) 0)), none] (o.1.toList ++ []) o.2) := Eq.trans (r_al_n d299_0 rfl) (Eq.trans (r_ic d299_1 kI_0) (Eq.trans (r_putI d299_2 f299_60 o_t0.2.1) (Eq.trans (r_al_n d299_5 rfl) (Eq.trans (r_ic d299_6 kI_0) (Eq.trans (r_putI d299_7 f299_63 o_t0.2.1) (Eq.trans (r_al_n d299_10 rfl) (Eq.trans (r_getRe d299_11 f299_35 o_t0.2.1 (o_t0.2.2.2.2.2.2.2.2.2.2.1) (Nat.le_trans o_t0.1 (Nat.le_add_right _ _))) (Eq.trans (r_ic d299_14 kI_0) (Eq.trans ((r_ialdC d299_15 (o_t0.2.2.2.2.2.2.2.2.2.2.2.1) ib_0_1995 tn_0)) (Eq.trans (r_is_n (loc' := [some (.ref t0), some (.int x1), some (.int x2), some (.int ((hs_u (hs_u I t0 1 0) t0 0 0) (t0 + 5) 0)), none]) d299_16 rfl) (Eq.trans (r_il_n d299_17 rfl) (Eq.trans (r_i2l d299_18) (Eq.trans (r_lc d299_19 kL_0) (Eq.trans (r_ldc2 d299_20 cl299_359) (r_cs (as := [.long (Int32.toInt64 x1), .long 0, .long 99]) (r := []) d299_23 c299_95 np223.symm rfl (hs_fitE mL223 (Nat.le_of_ble_eq_true rfl)))))))))))))))))
theorem b299_26 {t0 : Nat} {x1 x2 x3 s0 : Int32}  : hs_R scr (d + 1) 299 26 [some (.ref t0), some (.int x1), some (.int x2), some (.int x3), none] [.int s0] (S, I, L, R) = (if s0 = 0 then hs_R scr (d + 1) 299 41 [some (.ref t0), some (.int x1), some (.int x2), some (.int x3), none] [] (S, I, L, R) else ((hs_C scr d 223 [.long (Int32.toInt64 x2), .long 0, .long 9] (S, I, L, R)).bind fun o => hs_R scr (d + 1) 299 38 [some (.ref t0), some (.int x1), some (.int x2), some (.int x3), none] (o.1.toList ++ []) o.2)) := Eq.trans (r_zeq d299_26 rfl) (q_ite (rfl) (Eq.trans (r_il_n d299_29 rfl) (Eq.trans (r_i2l d299_30) (Eq.trans (r_lc d299_31 kL_0) (Eq.trans (r_ldc2 d299_32 cl299_389) (r_cs (as := [.long (Int32.toInt64 x2), .long 0, .long 9]) (r := []) d299_35 c299_95 np223.symm rfl (hs_fitE mL223 (Nat.le_of_ble_eq_true rfl))))))))
theorem b299_38 {t0 : Nat} {x1 x2 x3 s0 : Int32} (o_t0 : ok11 S R t0) : hs_R scr (d + 1) 299 38 [some (.ref t0), some (.int x1), some (.int x2), some (.int x3), none] [.int s0] (S, I, L, R) = (if s0 = 0 then hs_R scr (d + 1) 299 41 [some (.ref t0), some (.int x1), some (.int x2), some (.int x3), none] [] (S, I, L, R) else (if x3 = 8 then ((hs_C scr d 265 [.ref t0, .int 7] (S, I, L, R)).bind fun o => hs_R scr (d + 1) 299 59 [some (.ref t0), some (.int x1), some (.int x2), some (.int x3), none] (o.1.toList ++ []) o.2) else (if hs_ib ((10 : Int32) + x3) 1995 = true then (if hs_ib ((18 : Int32) + x3) 1995 = true then (if hs_ib ((26 : Int32) + x3) 1995 = true then (if hs_ib ((34 : Int32) + x3) 1995 = true then hs_R scr (d + 1) 299 103 [some (.ref t0), some (.int x1), some (.int x2), some (.int x3), some (.int 0)] [] (S, (hs_u (hs_u (hs_u (hs_u I (t0 + 5) (Int32.toNatClampNeg ((10 : Int32) + x3)) x1) (t0 + 5) (Int32.toNatClampNeg ((18 : Int32) + x3)) x2) (t0 + 5) (Int32.toNatClampNeg ((26 : Int32) + x3)) 1) (t0 + 5) (Int32.toNatClampNeg ((34 : Int32) + x3)) 0), L, R) else none) else none) else none) else none))) := Eq.trans (r_zne d299_38 rfl) (q_ite (rfl) (Eq.trans (r_il_n d299_47 rfl) (Eq.trans (r_bp d299_48 kB_8) (Eq.trans (r_cne d299_50 rfl) (q_ite (Eq.trans (r_al_n d299_53 rfl) (Eq.trans (r_bp d299_54 kB_7) (r_cvE (as := [.int 7]) (r := []) d299_56 c299_322 ow265 o_t0.2.1 np265.symm rfl (hs_fitE mL265 (Nat.le_of_ble_eq_true rfl))))) (Eq.trans (r_al_n d299_60 rfl) (Eq.trans (r_getRe d299_61 f299_35 o_t0.2.1 (o_t0.2.2.2.2.2.2.2.2.2.2.1) (Nat.le_trans o_t0.1 (Nat.le_add_right _ _))) (Eq.trans (r_bp d299_64 kB_10) (Eq.trans (r_il_n d299_66 rfl) (Eq.trans (r_iadd d299_67) (Eq.trans (r_il_n d299_68 rfl) (Eq.trans (r_iast d299_69 (o_t0.2.2.2.2.2.2.2.2.2.2.2.1)) (q_ite (Eq.trans (r_al_n d299_70 rfl) (Eq.trans (r_getRe d299_71 f299_35 o_t0.2.1 (o_t0.2.2.2.2.2.2.2.2.2.2.1) (Nat.le_trans o_t0.1 (Nat.le_add_right _ _))) (Eq.trans (r_bp d299_74 kB_18) (Eq.trans (r_il_n d299_76 rfl) (Eq.trans (r_iadd d299_77) (Eq.trans (r_il_n d299_78 rfl) (Eq.trans (r_iast d299_79 (o_t0.2.2.2.2.2.2.2.2.2.2.2.1)) (q_ite (Eq.trans (r_al_n d299_80 rfl) (Eq.trans (r_getRe d299_81 f299_35 o_t0.2.1 (o_t0.2.2.2.2.2.2.2.2.2.2.1) (Nat.le_trans o_t0.1 (Nat.le_add_right _ _))) (Eq.trans (r_bp d299_84 kB_26) (Eq.trans (r_il_n d299_86 rfl) (Eq.trans (r_iadd d299_87) (Eq.trans (r_ic d299_88 kI_1) (Eq.trans (r_iast d299_89 (o_t0.2.2.2.2.2.2.2.2.2.2.2.1)) (q_ite (Eq.trans (r_al_n d299_90 rfl) (Eq.trans (r_getRe d299_91 f299_35 o_t0.2.1 (o_t0.2.2.2.2.2.2.2.2.2.2.1) (Nat.le_trans o_t0.1 (Nat.le_add_right _ _))) (Eq.trans (r_bp d299_94 kB_34) (Eq.trans (r_il_n d299_96 rfl) (Eq.trans (r_iadd d299_97) (Eq.trans (r_ic d299_98 kI_0) (Eq.trans (r_iast d299_99 (o_t0.2.2.2.2.2.2.2.2.2.2.2.1)) (q_ite (Eq.trans (r_ic d299_100 kI_0) (Eq.trans (r_is (loc' := [some (.ref t0), some (.int x1), some (.int x2), some (.int x3), some (.int 0)]) d299_101 rfl) (rfl))) rfl)))))))) rfl)))))))) rfl)))))))) rfl)))))))))))))
theorem b299_41 {t0 : Nat} {x1 x2 x3 : Int32} (o_t0 : ok11 S R t0) : hs_R scr (d + 1) 299 41 [some (.ref t0), some (.int x1), some (.int x2), some (.int x3), none] [] (S, I, L, R) = ((hs_C scr d 265 [.ref t0, .int 5] (S, I, L, R)).bind fun o => hs_R scr (d + 1) 299 46 [some (.ref t0), some (.int x1), some (.int x2), some (.int x3), none] (o.1.toList ++ []) o.2) := Eq.trans (r_al_n d299_41 rfl) (Eq.trans (r_ic d299_42 kI_5) (r_cvE (as := [.int 5]) (r := []) d299_43 c299_322 ow265 o_t0.2.1 np265.symm rfl (hs_fitE mL265 (Nat.le_of_ble_eq_true rfl))))
theorem b299_46 {t0 : Nat} {x1 x2 x3 s0 : Int32}  : hs_R scr d 299 46 [some (.ref t0), some (.int x1), some (.int x2), some (.int x3), none] [.int s0] (S, I, L, R) = some (some (.int s0), (S, I, L, R)) := r_ri d299_46 rt299
theorem b299_59 {t0 : Nat} {x1 x2 x3 s0 : Int32}  : hs_R scr d 299 59 [some (.ref t0), some (.int x1), some (.int x2), some (.int x3), none] [.int s0] (S, I, L, R) = some (some (.int s0), (S, I, L, R)) := r_ri d299_59 rt299
theorem b299_103 {t0 : Nat} {x1 x2 x3 x4 : Int32} (o_t0 : ok11 S R t0) : hs_R scr d 299 103 [some (.ref t0), some (.int x1), some (.int x2), some (.int x3), some (.int x4)] [] (S, I, L, R) = (if (6 : Int32) ≤ x4 then (if hs_ib x3 155 = true then some (some (.int x3), (S, (hs_u I (t0 + 5) 0 ((I (t0 + 5) 0) + 1)), (hs_u L (t0 + 8) (Int32.toNatClampNeg x3) 0), R)) else none) else (if hs_ib (((59 : Int32) + ((8 : Int32) * x4)) + x3) 1995 = true then hs_R scr d 299 103 [some (.ref t0), some (.int x1), some (.int x2), some (.int x3), some (.int (x4 + 1))] [] (S, (hs_u I (t0 + 5) (Int32.toNatClampNeg (((59 : Int32) + ((8 : Int32) * x4)) + x3)) 3), L, R) else none)) := Eq.trans (r_il d299_103 rfl) (Eq.trans (r_bp d299_105 kB_6) (Eq.trans (r_cge d299_107 rfl) (q_ite (Eq.trans (r_al_n d299_132 rfl) (Eq.trans (r_getRe d299_133 f299_44 o_t0.2.1 (o_t0.2.2.2.2.2.2.2.2.2.2.2.2.2.2.2.2.1) (Nat.le_trans o_t0.1 (Nat.le_add_right _ _))) (Eq.trans (r_il_n d299_136 rfl) (Eq.trans (r_lc d299_137 kL_0) (Eq.trans (r_last d299_138 (o_t0.2.2.2.2.2.2.2.2.2.2.2.2.2.2.2.2.2.1)) (q_ite (Eq.trans (r_al_n d299_139 rfl) (Eq.trans (r_getRe d299_140 f299_35 o_t0.2.1 (o_t0.2.2.2.2.2.2.2.2.2.2.1) (Nat.le_trans o_t0.1 (Nat.le_add_right _ _))) (Eq.trans (r_ic d299_143 kI_0) (Eq.trans (r_dup2 d299_144 ⟨rfl, rfl⟩) (Eq.trans ((r_ialdC d299_145 (o_t0.2.2.2.2.2.2.2.2.2.2.2.1) ib_0_1995 tn_0)) (Eq.trans (r_ic d299_146 kI_1) (Eq.trans (r_iadd d299_147) (Eq.trans ((r_iastC d299_148 (o_t0.2.2.2.2.2.2.2.2.2.2.2.1) ib_0_1995 tn_0)) (Eq.trans (r_il_n d299_149 rfl) (r_ri d299_150 rt299)))))))))) rfl)))))) (Eq.trans (r_al_n d299_110 rfl) (Eq.trans (r_getRe d299_111 f299_35 o_t0.2.1 (o_t0.2.2.2.2.2.2.2.2.2.2.1) (Nat.le_trans o_t0.1 (Nat.le_add_right _ _))) (Eq.trans (r_bp d299_114 kB_59) (Eq.trans (r_bp d299_116 kB_8) (Eq.trans (r_il d299_118 rfl) (Eq.trans (r_imul d299_120) (Eq.trans (r_iadd d299_121) (Eq.trans (r_il_n d299_122 rfl) (Eq.trans (r_iadd d299_123) (Eq.trans (r_ic d299_124 kI_3) (Eq.trans (r_iast d299_125 (o_t0.2.2.2.2.2.2.2.2.2.2.2.1)) (q_ite (Eq.trans (r_inc (loc' := [some (.ref t0), some (.int x1), some (.int x2), some (.int x3), some (.int (x4 + 1))]) d299_126 kI_1 rfl rfl) (Eq.trans (r_goto d299_129 rfl) (rfl))) rfl)))))))))))))))
theorem e300 {t0 : Nat} {x1 : Int32} : hs_C scr d 300 [.ref t0, .int x1] h = hs_R scr d 300 0 [some (.ref t0), some (.int x1)] [] h := by rw [hs_C, mL300]; rfl
theorem b300_0 {t0 : Nat} {x1 : Int32} (o_t0 : ok11 S R t0) : hs_R scr (d + 1) 300 0 [some (.ref t0), some (.int x1)] [] (S, I, L, R) = ((hs_C scr d 278 [.ref t0, .int x1] (S, (hs_u (hs_u I t0 1 0) t0 0 0), L, R)).bind fun o => hs_R scr (d + 1) 300 15 [some (.ref t0), some (.int x1)] (o.1.toList ++ []) o.2) := Eq.trans (r_al_n d300_0 rfl) (Eq.trans (r_ic d300_1 kI_0) (Eq.trans (r_putI d300_2 f300_60 o_t0.2.1) (Eq.trans (r_al_n d300_5 rfl) (Eq.trans (r_ic d300_6 kI_0) (Eq.trans (r_putI d300_7 f300_63 o_t0.2.1) (Eq.trans (r_al_n d300_10 rfl) (Eq.trans (r_il_n d300_11 rfl) (r_cvE (as := [.int x1]) (r := []) d300_12 c300_346 ow278 o_t0.2.1 np278.symm rfl (hs_fitE mL278 (Nat.le_of_ble_eq_true rfl))))))))))
theorem b300_15 {t0 : Nat} {x1 s0 : Int32} (o_t0 : ok11 S R t0) : hs_R scr (d + 1) 300 15 [some (.ref t0), some (.int x1)] [.int s0] (S, I, L, R) = (if s0 = 0 then ((hs_C scr d 265 [.ref t0, .int 2] (S, I, L, R)).bind fun o => hs_R scr (d + 1) 300 23 [some (.ref t0), some (.int x1)] (o.1.toList ++ []) o.2) else ((hs_C scr d 301 [.ref t0, .int x1] (S, I, L, R)).bind fun o => hs_R scr (d + 1) 300 29 [some (.ref t0), some (.int x1)] (o.1.toList ++ []) o.2)) := Eq.trans (r_zne d300_15 rfl) (q_ite (Eq.trans (r_al_n d300_18 rfl) (Eq.trans (r_ic d300_19 kI_2) (r_cvE (as := [.int 2]) (r := []) d300_20 c300_322 ow265 o_t0.2.1 np265.symm rfl (hs_fitE mL265 (Nat.le_of_ble_eq_true rfl))))) (Eq.trans (r_al_n d300_24 rfl) (Eq.trans (r_il_n d300_25 rfl) (r_cvE (as := [.int x1]) (r := []) d300_26 c300_394 ow301 o_t0.2.1 np301.symm rfl (hs_fitE mL301 (Nat.le_of_ble_eq_true rfl))))))
theorem b300_23 {t0 : Nat} {x1 s0 : Int32}  : hs_R scr d 300 23 [some (.ref t0), some (.int x1)] [.int s0] (S, I, L, R) = some (some (.int s0), (S, I, L, R)) := r_ri d300_23 rt300
theorem b300_29 {t0 : Nat} {x1 s0 : Int32}  : hs_R scr d 300 29 [some (.ref t0), some (.int x1)] [.int s0] (S, I, L, R) = (if s0 = 0 then hs_R scr d 300 37 [some (.ref t0), some (.int x1)] [.int 1] (S, I, L, R) else hs_R scr d 300 37 [some (.ref t0), some (.int x1)] [.int 0] (S, I, L, R)) := Eq.trans (r_zne d300_29 rfl) (q_ite (Eq.trans (r_ic d300_32 kI_1) (Eq.trans (r_goto d300_33 rfl) (rfl))) (Eq.trans (r_ic d300_36 kI_0) (rfl)))
theorem b300_37 {t0 : Nat} {x1 s0 : Int32}  : hs_R scr d 300 37 [some (.ref t0), some (.int x1)] [.int s0] (S, I, L, R) = some (some (.int s0), (S, I, L, R)) := r_ri d300_37 rt300
theorem e301 {t0 : Nat} {x1 : Int32} : hs_C scr d 301 [.ref t0, .int x1] h = hs_R scr d 301 0 [some (.ref t0), some (.int x1), none, none] [] h := by rw [hs_C, mL301]; rfl
theorem b301_0 {t0 : Nat} {x1 : Int32}  : hs_R scr d 301 0 [some (.ref t0), some (.int x1), none, none] [] (S, I, L, R) = hs_R scr d 301 4 [some (.ref t0), some (.int x1), some (.int 0), some (.int 0)] [] (S, I, L, R) := Eq.trans (r_ic d301_0 kI_0) (Eq.trans (r_is_n (loc' := [some (.ref t0), some (.int x1), some (.int 0), none]) d301_1 rfl) (Eq.trans (r_ic d301_2 kI_0) (Eq.trans (r_is_n (loc' := [some (.ref t0), some (.int x1), some (.int 0), some (.int 0)]) d301_3 rfl) (rfl))))
theorem b301_4 {t0 : Nat} {x1 x2 x3 : Int32} (o_t0 : ok11 S R t0) : hs_R scr (d + 1) 301 4 [some (.ref t0), some (.int x1), some (.int x2), some (.int x3)] [] (S, I, L, R) = (if (I (t0 + 5) 0) ≤ x3 then some (some (.int x2), (S, I, L, R)) else ((hs_C scr d 302 [.ref t0, .int x1, .int x3] (S, I, L, R)).bind fun o => hs_R scr (d + 1) 301 21 [some (.ref t0), some (.int x1), some (.int x2), some (.int x3)] (o.1.toList ++ [.int x2]) o.2)) := Eq.trans (r_il_n d301_4 rfl) (Eq.trans (r_al_n d301_5 rfl) (Eq.trans (r_getRe d301_6 f301_35 o_t0.2.1 (o_t0.2.2.2.2.2.2.2.2.2.2.1) (Nat.le_trans o_t0.1 (Nat.le_add_right _ _))) (Eq.trans (r_ic d301_9 kI_0) (Eq.trans ((r_ialdC d301_10 (o_t0.2.2.2.2.2.2.2.2.2.2.2.1) ib_0_1995 tn_0)) (Eq.trans (r_cge d301_11 rfl) (q_ite (Eq.trans (r_il_n d301_37 rfl) (r_ri d301_38 rt301)) (Eq.trans (r_il_n d301_14 rfl) (Eq.trans (r_al_n d301_15 rfl) (Eq.trans (r_il_n d301_16 rfl) (Eq.trans (r_il_n d301_17 rfl) (r_cvE (as := [.int x1, .int x3]) (r := [.int x2]) d301_18 c301_391 ow302 o_t0.2.1 np302.symm rfl (hs_fitE mL302 (Nat.le_of_ble_eq_true rfl)))))))))))))
theorem b301_21 {t0 : Nat} {x1 x2 x3 s0 s1 : Int32}  : hs_R scr d 301 21 [some (.ref t0), some (.int x1), some (.int x2), some (.int x3)] [.int s1, .int s0] (S, I, L, R) = (if s1 = 0 then hs_R scr d 301 29 [some (.ref t0), some (.int x1), some (.int x2), some (.int x3)] [.int 1, .int s0] (S, I, L, R) else hs_R scr d 301 29 [some (.ref t0), some (.int x1), some (.int x2), some (.int x3)] [.int 0, .int s0] (S, I, L, R)) := Eq.trans (r_zeq d301_21 rfl) (q_ite (Eq.trans (r_ic d301_28 kI_1) (rfl)) (Eq.trans (r_ic d301_24 kI_0) (Eq.trans (r_goto d301_25 rfl) (rfl))))
theorem b301_29 {t0 : Nat} {x1 x2 x3 s0 s1 : Int32}  : hs_R scr d 301 29 [some (.ref t0), some (.int x1), some (.int x2), some (.int x3)] [.int s1, .int s0] (S, I, L, R) = hs_R scr d 301 4 [some (.ref t0), some (.int x1), some (.int (s0 + s1)), some (.int (x3 + 1))] [] (S, I, L, R) := Eq.trans (r_iadd d301_29) (Eq.trans (r_is_n (loc' := [some (.ref t0), some (.int x1), some (.int (s0 + s1)), some (.int x3)]) d301_30 rfl) (Eq.trans (r_inc (loc' := [some (.ref t0), some (.int x1), some (.int (s0 + s1)), some (.int (x3 + 1))]) d301_31 kI_1 rfl rfl) (Eq.trans (r_goto d301_34 rfl) (rfl))))
end BB

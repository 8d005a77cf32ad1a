/-! blocks: written by gen/mkblocks.py -/
theorem c302_349 : hs_cal (hs_own 302) 349 = some (0, 279) := by decide +kernel
theorem c303_322 : hs_cal (hs_own 303) 322 = some (0, 265) := by decide +kernel
theorem c303_394 : hs_cal (hs_own 303) 394 = some (0, 301) := by decide +kernel
theorem c304_322 : hs_cal (hs_own 304) 322 = some (0, 265) := by decide +kernel
theorem c304_346 : hs_cal (hs_own 304) 346 = some (0, 278) := by decide +kernel
theorem c304_394 : hs_cal (hs_own 304) 394 = some (0, 301) := by decide +kernel
theorem c305_322 : hs_cal (hs_own 305) 322 = some (0, 265) := by decide +kernel
theorem c305_346 : hs_cal (hs_own 305) 346 = some (0, 278) := by decide +kernel
theorem c305_361 : hs_cal (hs_own 305) 361 = some (0, 284) := by decide +kernel
theorem c305_394 : hs_cal (hs_own 305) 394 = some (0, 301) := by decide +kernel
theorem c305_399 : hs_cal (hs_own 305) 399 = some (0, 306) := by decide +kernel
theorem c305_402 : hs_cal (hs_own 305) 402 = some (0, 307) := by decide +kernel
theorem c308_245 : hs_cal (hs_own 308) 245 = some (6, 0) := by decide +kernel
theorem c308_322 : hs_cal (hs_own 308) 322 = some (0, 265) := by decide +kernel
theorem c308_346 : hs_cal (hs_own 308) 346 = some (0, 278) := by decide +kernel
theorem c308_349 : hs_cal (hs_own 308) 349 = some (0, 279) := by decide +kernel
theorem c308_391 : hs_cal (hs_own 308) 391 = some (0, 302) := by decide +kernel
theorem c309_95 : hs_cal (hs_own 309) 95 = some (1, 223) := by decide +kernel
theorem c309_322 : hs_cal (hs_own 309) 322 = some (0, 265) := by decide +kernel
theorem c309_410 : hs_cal (hs_own 309) 410 = some (0, 310) := by decide +kernel
theorem c310_405 : hs_cal (hs_own 310) 405 = some (0, 311) := by decide +kernel
theorem c311_245 : hs_cal (hs_own 311) 245 = some (6, 0) := by decide +kernel
theorem c311_317 : hs_cal (hs_own 311) 317 = some (7, 0) := by decide +kernel
theorem c312_322 : hs_cal (hs_own 312) 322 = some (0, 265) := by decide +kernel
theorem c312_346 : hs_cal (hs_own 312) 346 = some (0, 278) := by decide +kernel
theorem c312_349 : hs_cal (hs_own 312) 349 = some (0, 279) := by decide +kernel
theorem c313_322 : hs_cal (hs_own 313) 322 = some (0, 265) := by decide +kernel
theorem c313_340 : hs_cal (hs_own 313) 340 = some (0, 272) := by decide +kernel
theorem c313_413 : hs_cal (hs_own 313) 413 = some (1, 314) := by decide +kernel
theorem c313_416 : hs_cal (hs_own 313) 416 = some (0, 315) := by decide +kernel
theorem c314_95 : hs_cal (hs_own 314) 95 = some (1, 223) := by decide +kernel
theorem c315_361 : hs_cal (hs_own 315) 361 = some (0, 284) := by decide +kernel
theorem c315_399 : hs_cal (hs_own 315) 399 = some (0, 306) := by decide +kernel
theorem c315_402 : hs_cal (hs_own 315) 402 = some (0, 307) := by decide +kernel
theorem c316_322 : hs_cal (hs_own 316) 322 = some (0, 265) := by decide +kernel
theorem c316_340 : hs_cal (hs_own 316) 340 = some (0, 272) := by decide +kernel
theorem c316_413 : hs_cal (hs_own 316) 413 = some (1, 314) := by decide +kernel
theorem c316_416 : hs_cal (hs_own 316) 416 = some (0, 315) := by decide +kernel
theorem c317_95 : hs_cal (hs_own 317) 95 = some (1, 223) := by decide +kernel
theorem c317_322 : hs_cal (hs_own 317) 322 = some (0, 265) := by decide +kernel
theorem c317_340 : hs_cal (hs_own 317) 340 = some (0, 272) := by decide +kernel
theorem c317_361 : hs_cal (hs_own 317) 361 = some (0, 284) := by decide +kernel
theorem c317_399 : hs_cal (hs_own 317) 399 = some (0, 306) := by decide +kernel
theorem c317_402 : hs_cal (hs_own 317) 402 = some (0, 307) := by decide +kernel
theorem c318_322 : hs_cal (hs_own 318) 322 = some (0, 265) := by decide +kernel
theorem c318_361 : hs_cal (hs_own 318) 361 = some (0, 284) := by decide +kernel
theorem c318_399 : hs_cal (hs_own 318) 399 = some (0, 306) := by decide +kernel
theorem c318_402 : hs_cal (hs_own 318) 402 = some (0, 307) := by decide +kernel
theorem c318_419 : hs_cal (hs_own 318) 419 = some (0, 319) := by decide +kernel
theorem c320_95 : hs_cal (hs_own 320) 95 = some (1, 223) := by decide +kernel
theorem c320_322 : hs_cal (hs_own 320) 322 = some (0, 265) := by decide +kernel
theorem c320_328 : hs_cal (hs_own 320) 328 = some (0, 267) := by decide +kernel
theorem c320_424 : hs_cal (hs_own 320) 424 = some (1, 321) := by decide +kernel
theorem c321_99 : hs_cal (hs_own 321) 99 = some (1, 219) := by decide +kernel
theorem c322_367 : hs_cal (hs_own 322) 367 = some (0, 289) := by decide +kernel
theorem c322_375 : hs_cal (hs_own 322) 375 = some (0, 292) := by decide +kernel
theorem c323_322 : hs_cal (hs_own 323) 322 = some (0, 265) := by decide +kernel
theorem c323_340 : hs_cal (hs_own 323) 340 = some (0, 272) := by decide +kernel
theorem c323_375 : hs_cal (hs_own 323) 375 = some (0, 292) := by decide +kernel
theorem c324_95 : hs_cal (hs_own 324) 95 = some (1, 223) := by decide +kernel
theorem c324_322 : hs_cal (hs_own 324) 322 = some (0, 265) := by decide +kernel
theorem c324_424 : hs_cal (hs_own 324) 424 = some (1, 321) := by decide +kernel
theorem c324_430 : hs_cal (hs_own 324) 430 = some (0, 325) := by decide +kernel
theorem c325_424 : hs_cal (hs_own 325) 424 = some (1, 321) := by decide +kernel
theorem c325_427 : hs_cal (hs_own 325) 427 = some (0, 326) := by decide +kernel
theorem c326_99 : hs_cal (hs_own 326) 99 = some (1, 219) := by decide +kernel
theorem c327_95 : hs_cal (hs_own 327) 95 = some (1, 223) := by decide +kernel
theorem c327_322 : hs_cal (hs_own 327) 322 = some (0, 265) := by decide +kernel
theorem c327_430 : hs_cal (hs_own 327) 430 = some (0, 325) := by decide +kernel
theorem c328_436 : hs_cal (hs_own 328) 436 = some (0, 329) := by decide +kernel
theorem c329_433 : hs_cal (hs_own 329) 433 = some (0, 330) := by decide +kernel
theorem c330_334 : hs_cal (hs_own 330) 334 = some (0, 269) := by decide +kernel
theorem c330_373 : hs_cal (hs_own 330) 373 = some (8, 0) := by decide +kernel
theorem c330_427 : hs_cal (hs_own 330) 427 = some (0, 326) := by decide +kernel
theorem c331_433 : hs_cal (hs_own 331) 433 = some (0, 330) := by decide +kernel
theorem c331_436 : hs_cal (hs_own 331) 436 = some (0, 329) := by decide +kernel
theorem c332_95 : hs_cal (hs_own 332) 95 = some (1, 223) := by decide +kernel
theorem c332_322 : hs_cal (hs_own 332) 322 = some (0, 265) := by decide +kernel
theorem c332_352 : hs_cal (hs_own 332) 352 = some (0, 282) := by decide +kernel
theorem c332_361 : hs_cal (hs_own 332) 361 = some (0, 284) := by decide +kernel
theorem c332_399 : hs_cal (hs_own 332) 399 = some (0, 306) := by decide +kernel
theorem c332_402 : hs_cal (hs_own 332) 402 = some (0, 307) := by decide +kernel
theorem c332_441 : hs_cal (hs_own 332) 441 = some (0, 333) := by decide +kernel
theorem c332_445 : hs_cal (hs_own 332) 445 = some (0, 334) := by decide +kernel
theorem c335_322 : hs_cal (hs_own 335) 322 = some (0, 265) := by decide +kernel
theorem c335_424 : hs_cal (hs_own 335) 424 = some (1, 321) := by decide +kernel
theorem c335_448 : hs_cal (hs_own 335) 448 = some (0, 336) := by decide +kernel
theorem c336_99 : hs_cal (hs_own 336) 99 = some (1, 219) := by decide +kernel
theorem c336_424 : hs_cal (hs_own 336) 424 = some (1, 321) := by decide +kernel
theorem c337_322 : hs_cal (hs_own 337) 322 = some (0, 265) := by decide +kernel
theorem c337_448 : hs_cal (hs_own 337) 448 = some (0, 336) := by decide +kernel
theorem c338_322 : hs_cal (hs_own 338) 322 = some (0, 265) := by decide +kernel
theorem c338_451 : hs_cal (hs_own 338) 451 = some (0, 339) := by decide +kernel
theorem c339_95 : hs_cal (hs_own 339) 95 = some (1, 223) := by decide +kernel
theorem c340_95 : hs_cal (hs_own 340) 95 = some (1, 223) := by decide +kernel
theorem c340_322 : hs_cal (hs_own 340) 322 = some (0, 265) := by decide +kernel
theorem c340_454 : hs_cal (hs_own 340) 454 = some (0, 341) := by decide +kernel
theorem c341_334 : hs_cal (hs_own 341) 334 = some (0, 269) := by decide +kernel
theorem c341_361 : hs_cal (hs_own 341) 361 = some (0, 284) := by decide +kernel
theorem c341_454 : hs_cal (hs_own 341) 454 = some (0, 341) := by decide +kernel
theorem c342_95 : hs_cal (hs_own 342) 95 = some (1, 223) := by decide +kernel
theorem c342_322 : hs_cal (hs_own 342) 322 = some (0, 265) := by decide +kernel
theorem c342_454 : hs_cal (hs_own 342) 454 = some (0, 341) := by decide +kernel
theorem c343_75 : hs_cal (hs_own 343) 75 = some (0, 197) := by decide +kernel
theorem c343_95 : hs_cal (hs_own 343) 95 = some (1, 223) := by decide +kernel
theorem c343_346 : hs_cal (hs_own 343) 346 = some (0, 278) := by decide +kernel
theorem c343_349 : hs_cal (hs_own 343) 349 = some (0, 279) := by decide +kernel
theorem c343_462 : hs_cal (hs_own 343) 462 = some (0, 344) := by decide +kernel
theorem c344_69 : hs_cal (hs_own 344) 69 = some (9, 0) := by decide +kernel
theorem c345_75 : hs_cal (hs_own 345) 75 = some (0, 197) := by decide +kernel
theorem c345_337 : hs_cal (hs_own 345) 337 = some (0, 270) := by decide +kernel
theorem c345_343 : hs_cal (hs_own 345) 343 = some (0, 274) := by decide +kernel
theorem c345_462 : hs_cal (hs_own 345) 462 = some (0, 344) := by decide +kernel
theorem c346_95 : hs_cal (hs_own 346) 95 = some (1, 223) := by decide +kernel
theorem c346_322 : hs_cal (hs_own 346) 322 = some (0, 265) := by decide +kernel
theorem c346_519 : hs_cal (hs_own 346) 519 = some (0, 347) := by decide +kernel
theorem c347_511 : hs_cal (hs_own 347) 511 = some (0, 348) := by decide +kernel
theorem c348_514 : hs_cal (hs_own 348) 514 = some (0, 349) := by decide +kernel
theorem cl309_408 : hs_kL (hs_own 309) 408 = some 4 := by decide +kernel
theorem cl314_397 : hs_kL (hs_own 314) 397 = some 200 := by decide +kernel
theorem cl317_359 : hs_kL (hs_own 317) 359 = some 99 := by decide +kernel
theorem cl320_422 : hs_kL (hs_own 320) 422 = some 999 := by decide +kernel
theorem cl324_422 : hs_kL (hs_own 324) 422 = some 999 := by decide +kernel
theorem cl327_422 : hs_kL (hs_own 327) 422 = some 999 := by decide +kernel
theorem cl332_359 : hs_kL (hs_own 332) 359 = some 99 := by decide +kernel
theorem cl332_381 : hs_kL (hs_own 332) 381 = some 2 := by decide +kernel
theorem cl332_397 : hs_kL (hs_own 332) 397 = some 200 := by decide +kernel
theorem cl332_439 : hs_kL (hs_own 332) 439 = some 20 := by decide +kernel
theorem cl340_93 : hs_kL (hs_own 340) 93 = some 3 := by decide +kernel
theorem cl342_93 : hs_kL (hs_own 342) 93 = some 3 := by decide +kernel
theorem cl343_387 : hs_kL (hs_own 343) 387 = some 16 := by decide +kernel
theorem cl343_460 : hs_kL (hs_own 343) 460 = some 8 := by decide +kernel
theorem cl346_517 : hs_kL (hs_own 346) 517 = some 9999 := by decide +kernel
theorem d302_0 : decode (hs_code 302) 0 = .ok (.aload_n 0, 1) := by decide +kernel
theorem d302_1 : decode (hs_code 302) 1 = .ok (.iload_n 1, 1) := by decide +kernel
theorem d302_2 : decode (hs_code 302) 2 = .ok (.iload_n 2, 1) := by decide +kernel
theorem d302_3 : decode (hs_code 302) 3 = .ok (.invokevirtual 349, 3) := by decide +kernel
theorem d302_6 : decode (hs_code 302) 6 = .ok (.iconst 3, 1) := by decide +kernel
theorem d302_7 : decode (hs_code 302) 7 = .ok (.if_icmp .eq 21, 3) := by decide +kernel
theorem d302_10 : decode (hs_code 302) 10 = .ok (.aload_n 0, 1) := by decide +kernel
theorem d302_11 : decode (hs_code 302) 11 = .ok (.iload_n 1, 1) := by decide +kernel
theorem d302_12 : decode (hs_code 302) 12 = .ok (.iload_n 2, 1) := by decide +kernel
theorem d302_13 : decode (hs_code 302) 13 = .ok (.invokevirtual 349, 3) := by decide +kernel
theorem d302_16 : decode (hs_code 302) 16 = .ok (.aload_n 0, 1) := by decide +kernel
theorem d302_17 : decode (hs_code 302) 17 = .ok (.getfield 35, 3) := by decide +kernel
theorem d302_20 : decode (hs_code 302) 20 = .ok (.bipush 26, 2) := by decide +kernel
theorem d302_22 : decode (hs_code 302) 22 = .ok (.iload_n 2, 1) := by decide +kernel
theorem d302_23 : decode (hs_code 302) 23 = .ok (.iadd, 1) := by decide +kernel
theorem d302_24 : decode (hs_code 302) 24 = .ok (.iaload, 1) := by decide +kernel
theorem d302_25 : decode (hs_code 302) 25 = .ok (.if_icmp .ne 7, 3) := by decide +kernel
theorem d302_28 : decode (hs_code 302) 28 = .ok (.iconst 1, 1) := by decide +kernel
theorem d302_29 : decode (hs_code 302) 29 = .ok (.goto 4, 3) := by decide +kernel
theorem d302_32 : decode (hs_code 302) 32 = .ok (.iconst 0, 1) := by decide +kernel
theorem d302_33 : decode (hs_code 302) 33 = .ok (.ireturn, 1) := by decide +kernel
theorem d303_0 : decode (hs_code 303) 0 = .ok (.aload_n 0, 1) := by decide +kernel
theorem d303_1 : decode (hs_code 303) 1 = .ok (.iconst 0, 1) := by decide +kernel
theorem d303_2 : decode (hs_code 303) 2 = .ok (.putfield 60, 3) := by decide +kernel
theorem d303_5 : decode (hs_code 303) 5 = .ok (.aload_n 0, 1) := by decide +kernel
theorem d303_6 : decode (hs_code 303) 6 = .ok (.iconst 0, 1) := by decide +kernel
theorem d303_7 : decode (hs_code 303) 7 = .ok (.putfield 63, 3) := by decide +kernel
theorem d303_10 : decode (hs_code 303) 10 = .ok (.iconst 0, 1) := by decide +kernel
theorem d303_11 : decode (hs_code 303) 11 = .ok (.istore_n 1, 1) := by decide +kernel
theorem d303_12 : decode (hs_code 303) 12 = .ok (.iload_n 1, 1) := by decide +kernel
theorem d303_13 : decode (hs_code 303) 13 = .ok (.aload_n 0, 1) := by decide +kernel
theorem d303_14 : decode (hs_code 303) 14 = .ok (.getfield 35, 3) := by decide +kernel
theorem d303_17 : decode (hs_code 303) 17 = .ok (.iconst 3, 1) := by decide +kernel
theorem d303_18 : decode (hs_code 303) 18 = .ok (.iaload, 1) := by decide +kernel
theorem d303_19 : decode (hs_code 303) 19 = .ok (.if_icmp .ge 19, 3) := by decide +kernel
theorem d303_22 : decode (hs_code 303) 22 = .ok (.aload_n 0, 1) := by decide +kernel
theorem d303_23 : decode (hs_code 303) 23 = .ok (.iload_n 1, 1) := by decide +kernel
theorem d303_24 : decode (hs_code 303) 24 = .ok (.invokevirtual 394, 3) := by decide +kernel
theorem d303_27 : decode (hs_code 303) 27 = .ok (.ifCond .ne 5, 3) := by decide +kernel
theorem d303_30 : decode (hs_code 303) 30 = .ok (.iload_n 1, 1) := by decide +kernel
theorem d303_31 : decode (hs_code 303) 31 = .ok (.ireturn, 1) := by decide +kernel
theorem d303_32 : decode (hs_code 303) 32 = .ok (.iinc 1 1, 3) := by decide +kernel
theorem d303_35 : decode (hs_code 303) 35 = .ok (.goto (-23), 3) := by decide +kernel
theorem d303_38 : decode (hs_code 303) 38 = .ok (.aload_n 0, 1) := by decide +kernel
theorem d303_39 : decode (hs_code 303) 39 = .ok (.bipush 8, 2) := by decide +kernel
theorem d303_41 : decode (hs_code 303) 41 = .ok (.invokevirtual 322, 3) := by decide +kernel
theorem d303_44 : decode (hs_code 303) 44 = .ok (.ireturn, 1) := by decide +kernel
theorem d304_0 : decode (hs_code 304) 0 = .ok (.aload_n 0, 1) := by decide +kernel
theorem d304_1 : decode (hs_code 304) 1 = .ok (.iconst 0, 1) := by decide +kernel
theorem d304_2 : decode (hs_code 304) 2 = .ok (.putfield 60, 3) := by decide +kernel
theorem d304_5 : decode (hs_code 304) 5 = .ok (.aload_n 0, 1) := by decide +kernel
theorem d304_6 : decode (hs_code 304) 6 = .ok (.iconst 0, 1) := by decide +kernel
theorem d304_7 : decode (hs_code 304) 7 = .ok (.putfield 63, 3) := by decide +kernel
theorem d304_10 : decode (hs_code 304) 10 = .ok (.aload_n 0, 1) := by decide +kernel
theorem d304_11 : decode (hs_code 304) 11 = .ok (.iload_n 1, 1) := by decide +kernel
theorem d304_12 : decode (hs_code 304) 12 = .ok (.invokevirtual 346, 3) := by decide +kernel
theorem d304_15 : decode (hs_code 304) 15 = .ok (.ifCond .eq 11, 3) := by decide +kernel
theorem d304_18 : decode (hs_code 304) 18 = .ok (.aload_n 0, 1) := by decide +kernel
theorem d304_19 : decode (hs_code 304) 19 = .ok (.iload_n 1, 1) := by decide +kernel
theorem d304_20 : decode (hs_code 304) 20 = .ok (.invokevirtual 394, 3) := by decide +kernel
theorem d304_23 : decode (hs_code 304) 23 = .ok (.goto 8, 3) := by decide +kernel
theorem d304_26 : decode (hs_code 304) 26 = .ok (.aload_n 0, 1) := by decide +kernel
theorem d304_27 : decode (hs_code 304) 27 = .ok (.iconst 2, 1) := by decide +kernel
theorem d304_28 : decode (hs_code 304) 28 = .ok (.invokevirtual 322, 3) := by decide +kernel
theorem d304_31 : decode (hs_code 304) 31 = .ok (.ireturn, 1) := by decide +kernel
theorem d305_0 : decode (hs_code 305) 0 = .ok (.aload_n 0, 1) := by decide +kernel
theorem d305_1 : decode (hs_code 305) 1 = .ok (.iconst 0, 1) := by decide +kernel
theorem d305_2 : decode (hs_code 305) 2 = .ok (.putfield 60, 3) := by decide +kernel
theorem d305_5 : decode (hs_code 305) 5 = .ok (.aload_n 0, 1) := by decide +kernel
theorem d305_6 : decode (hs_code 305) 6 = .ok (.iconst 0, 1) := by decide +kernel
theorem d305_7 : decode (hs_code 305) 7 = .ok (.putfield 63, 3) := by decide +kernel
theorem d305_10 : decode (hs_code 305) 10 = .ok (.aload_n 0, 1) := by decide +kernel
theorem d305_11 : decode (hs_code 305) 11 = .ok (.iload_n 1, 1) := by decide +kernel
theorem d305_12 : decode (hs_code 305) 12 = .ok (.invokevirtual 346, 3) := by decide +kernel
theorem d305_15 : decode (hs_code 305) 15 = .ok (.ifCond .ne 9, 3) := by decide +kernel
theorem d305_18 : decode (hs_code 305) 18 = .ok (.aload_n 0, 1) := by decide +kernel
theorem d305_19 : decode (hs_code 305) 19 = .ok (.iconst 2, 1) := by decide +kernel
theorem d305_20 : decode (hs_code 305) 20 = .ok (.invokevirtual 322, 3) := by decide +kernel
theorem d305_23 : decode (hs_code 305) 23 = .ok (.ireturn, 1) := by decide +kernel
theorem d305_24 : decode (hs_code 305) 24 = .ok (.iconst (-1), 1) := by decide +kernel
theorem d305_25 : decode (hs_code 305) 25 = .ok (.istore_n 2, 1) := by decide +kernel
theorem d305_26 : decode (hs_code 305) 26 = .ok (.aload_n 0, 1) := by decide +kernel
theorem d305_27 : decode (hs_code 305) 27 = .ok (.invokevirtual 399, 3) := by decide +kernel
theorem d305_30 : decode (hs_code 305) 30 = .ok (.iconst 0, 1) := by decide +kernel
theorem d305_31 : decode (hs_code 305) 31 = .ok (.istore_n 3, 1) := by decide +kernel
theorem d305_32 : decode (hs_code 305) 32 = .ok (.iload_n 3, 1) := by decide +kernel
theorem d305_33 : decode (hs_code 305) 33 = .ok (.sipush 200, 3) := by decide +kernel
theorem d305_36 : decode (hs_code 305) 36 = .ok (.if_icmp .gt 27, 3) := by decide +kernel
theorem d305_39 : decode (hs_code 305) 39 = .ok (.iload_n 2, 1) := by decide +kernel
theorem d305_40 : decode (hs_code 305) 40 = .ok (.ifCond .ge 23, 3) := by decide +kernel
theorem d305_43 : decode (hs_code 305) 43 = .ok (.aload_n 0, 1) := by decide +kernel
theorem d305_44 : decode (hs_code 305) 44 = .ok (.iload_n 1, 1) := by decide +kernel
theorem d305_45 : decode (hs_code 305) 45 = .ok (.invokevirtual 394, 3) := by decide +kernel
theorem d305_48 : decode (hs_code 305) 48 = .ok (.ifCond .ne 5, 3) := by decide +kernel
theorem d305_51 : decode (hs_code 305) 51 = .ok (.iload_n 3, 1) := by decide +kernel
theorem d305_52 : decode (hs_code 305) 52 = .ok (.istore_n 2, 1) := by decide +kernel
theorem d305_53 : decode (hs_code 305) 53 = .ok (.aload_n 0, 1) := by decide +kernel
theorem d305_54 : decode (hs_code 305) 54 = .ok (.invokevirtual 361, 3) := by decide +kernel
theorem d305_57 : decode (hs_code 305) 57 = .ok (.iinc 3 1, 3) := by decide +kernel
theorem d305_60 : decode (hs_code 305) 60 = .ok (.goto (-28), 3) := by decide +kernel
theorem d305_63 : decode (hs_code 305) 63 = .ok (.aload_n 0, 1) := by decide +kernel
theorem d305_64 : decode (hs_code 305) 64 = .ok (.invokevirtual 402, 3) := by decide +kernel
theorem d305_67 : decode (hs_code 305) 67 = .ok (.iload_n 2, 1) := by decide +kernel
theorem d305_68 : decode (hs_code 305) 68 = .ok (.ifCond .ge 12, 3) := by decide +kernel
theorem d305_71 : decode (hs_code 305) 71 = .ok (.aload_n 0, 1) := by decide +kernel
theorem d305_72 : decode (hs_code 305) 72 = .ok (.bipush 8, 2) := by decide +kernel
theorem d305_74 : decode (hs_code 305) 74 = .ok (.invokevirtual 322, 3) := by decide +kernel
theorem d305_77 : decode (hs_code 305) 77 = .ok (.goto 4, 3) := by decide +kernel
theorem d305_80 : decode (hs_code 305) 80 = .ok (.iload_n 2, 1) := by decide +kernel
theorem d305_81 : decode (hs_code 305) 81 = .ok (.ireturn, 1) := by decide +kernel
theorem d306_0 : decode (hs_code 306) 0 = .ok (.iconst 0, 1) := by decide +kernel
theorem d306_1 : decode (hs_code 306) 1 = .ok (.istore_n 1, 1) := by decide +kernel
theorem d306_2 : decode (hs_code 306) 2 = .ok (.iload_n 1, 1) := by decide +kernel
theorem d306_3 : decode (hs_code 306) 3 = .ok (.bipush 127, 2) := by decide +kernel
theorem d306_5 : decode (hs_code 306) 5 = .ok (.if_icmp .ge 21, 3) := by decide +kernel
theorem d306_8 : decode (hs_code 306) 8 = .ok (.aload_n 0, 1) := by decide +kernel
theorem d306_9 : decode (hs_code 306) 9 = .ok (.getfield 38, 3) := by decide +kernel
theorem d306_12 : decode (hs_code 306) 12 = .ok (.iload_n 1, 1) := by decide +kernel
theorem d306_13 : decode (hs_code 306) 13 = .ok (.aload_n 0, 1) := by decide +kernel
theorem d306_14 : decode (hs_code 306) 14 = .ok (.getfield 35, 3) := by decide +kernel
theorem d306_17 : decode (hs_code 306) 17 = .ok (.iload_n 1, 1) := by decide +kernel
theorem d306_18 : decode (hs_code 306) 18 = .ok (.iaload, 1) := by decide +kernel
theorem d306_19 : decode (hs_code 306) 19 = .ok (.iastore, 1) := by decide +kernel
theorem d306_20 : decode (hs_code 306) 20 = .ok (.iinc 1 1, 3) := by decide +kernel
theorem d306_23 : decode (hs_code 306) 23 = .ok (.goto (-21), 3) := by decide +kernel
theorem d306_26 : decode (hs_code 306) 26 = .ok (.return_, 1) := by decide +kernel
theorem d307_0 : decode (hs_code 307) 0 = .ok (.iconst 0, 1) := by decide +kernel
theorem d307_1 : decode (hs_code 307) 1 = .ok (.istore_n 1, 1) := by decide +kernel
theorem d307_2 : decode (hs_code 307) 2 = .ok (.iload_n 1, 1) := by decide +kernel
theorem d307_3 : decode (hs_code 307) 3 = .ok (.bipush 127, 2) := by decide +kernel
theorem d307_5 : decode (hs_code 307) 5 = .ok (.if_icmp .ge 21, 3) := by decide +kernel
theorem d307_8 : decode (hs_code 307) 8 = .ok (.aload_n 0, 1) := by decide +kernel
theorem d307_9 : decode (hs_code 307) 9 = .ok (.getfield 35, 3) := by decide +kernel
theorem d307_12 : decode (hs_code 307) 12 = .ok (.iload_n 1, 1) := by decide +kernel
theorem d307_13 : decode (hs_code 307) 13 = .ok (.aload_n 0, 1) := by decide +kernel
theorem d307_14 : decode (hs_code 307) 14 = .ok (.getfield 38, 3) := by decide +kernel
theorem d307_17 : decode (hs_code 307) 17 = .ok (.iload_n 1, 1) := by decide +kernel
theorem d307_18 : decode (hs_code 307) 18 = .ok (.iaload, 1) := by decide +kernel
theorem d307_19 : decode (hs_code 307) 19 = .ok (.iastore, 1) := by decide +kernel
theorem d307_20 : decode (hs_code 307) 20 = .ok (.iinc 1 1, 3) := by decide +kernel
theorem d307_23 : decode (hs_code 307) 23 = .ok (.goto (-21), 3) := by decide +kernel
theorem d307_26 : decode (hs_code 307) 26 = .ok (.return_, 1) := by decide +kernel
theorem d308_0 : decode (hs_code 308) 0 = .ok (.aload_n 0, 1) := by decide +kernel
theorem d308_1 : decode (hs_code 308) 1 = .ok (.iconst 0, 1) := by decide +kernel
theorem d308_2 : decode (hs_code 308) 2 = .ok (.putfield 60, 3) := by decide +kernel
theorem d308_5 : decode (hs_code 308) 5 = .ok (.aload_n 0, 1) := by decide +kernel
theorem d308_6 : decode (hs_code 308) 6 = .ok (.iconst 0, 1) := by decide +kernel
theorem d308_7 : decode (hs_code 308) 7 = .ok (.putfield 63, 3) := by decide +kernel
theorem d308_10 : decode (hs_code 308) 10 = .ok (.aload_n 0, 1) := by decide +kernel
theorem d308_11 : decode (hs_code 308) 11 = .ok (.iload_n 1, 1) := by decide +kernel
theorem d308_12 : decode (hs_code 308) 12 = .ok (.invokevirtual 346, 3) := by decide +kernel
theorem d308_15 : decode (hs_code 308) 15 = .ok (.ifCond .ne 9, 3) := by decide +kernel
theorem d308_18 : decode (hs_code 308) 18 = .ok (.aload_n 0, 1) := by decide +kernel
theorem d308_19 : decode (hs_code 308) 19 = .ok (.iconst 2, 1) := by decide +kernel
theorem d308_20 : decode (hs_code 308) 20 = .ok (.invokevirtual 322, 3) := by decide +kernel
theorem d308_23 : decode (hs_code 308) 23 = .ok (.ireturn, 1) := by decide +kernel
theorem d308_24 : decode (hs_code 308) 24 = .ok (.iconst 0, 1) := by decide +kernel
theorem d308_25 : decode (hs_code 308) 25 = .ok (.istore_n 2, 1) := by decide +kernel
theorem d308_26 : decode (hs_code 308) 26 = .ok (.iconst 0, 1) := by decide +kernel
theorem d308_27 : decode (hs_code 308) 27 = .ok (.istore_n 3, 1) := by decide +kernel
theorem d308_28 : decode (hs_code 308) 28 = .ok (.iconst 0, 1) := by decide +kernel
theorem d308_29 : decode (hs_code 308) 29 = .ok (.istore 4, 2) := by decide +kernel
theorem d308_31 : decode (hs_code 308) 31 = .ok (.iload 4, 2) := by decide +kernel
theorem d308_33 : decode (hs_code 308) 33 = .ok (.aload_n 0, 1) := by decide +kernel
theorem d308_34 : decode (hs_code 308) 34 = .ok (.getfield 35, 3) := by decide +kernel
theorem d308_37 : decode (hs_code 308) 37 = .ok (.iconst 0, 1) := by decide +kernel
theorem d308_38 : decode (hs_code 308) 38 = .ok (.iaload, 1) := by decide +kernel
theorem d308_39 : decode (hs_code 308) 39 = .ok (.if_icmp .ge 68, 3) := by decide +kernel
theorem d308_42 : decode (hs_code 308) 42 = .ok (.aload_n 0, 1) := by decide +kernel
theorem d308_43 : decode (hs_code 308) 43 = .ok (.iload_n 1, 1) := by decide +kernel
theorem d308_44 : decode (hs_code 308) 44 = .ok (.iload 4, 2) := by decide +kernel
theorem d308_46 : decode (hs_code 308) 46 = .ok (.invokevirtual 391, 3) := by decide +kernel
theorem d308_49 : decode (hs_code 308) 49 = .ok (.ifCond .eq 6, 3) := by decide +kernel
theorem d308_52 : decode (hs_code 308) 52 = .ok (.goto 49, 3) := by decide +kernel
theorem d308_55 : decode (hs_code 308) 55 = .ok (.iload_n 2, 1) := by decide +kernel
theorem d308_56 : decode (hs_code 308) 56 = .ok (.aload_n 0, 1) := by decide +kernel
theorem d308_57 : decode (hs_code 308) 57 = .ok (.iload_n 1, 1) := by decide +kernel
theorem d308_58 : decode (hs_code 308) 58 = .ok (.iload 4, 2) := by decide +kernel
theorem d308_60 : decode (hs_code 308) 60 = .ok (.invokevirtual 349, 3) := by decide +kernel
theorem d308_63 : decode (hs_code 308) 63 = .ok (.aload_n 0, 1) := by decide +kernel
theorem d308_64 : decode (hs_code 308) 64 = .ok (.getfield 35, 3) := by decide +kernel
theorem d308_67 : decode (hs_code 308) 67 = .ok (.bipush 26, 2) := by decide +kernel
theorem d308_69 : decode (hs_code 308) 69 = .ok (.iload 4, 2) := by decide +kernel
theorem d308_71 : decode (hs_code 308) 71 = .ok (.iadd, 1) := by decide +kernel
theorem d308_72 : decode (hs_code 308) 72 = .ok (.iaload, 1) := by decide +kernel
theorem d308_73 : decode (hs_code 308) 73 = .ok (.isub, 1) := by decide +kernel
theorem d308_74 : decode (hs_code 308) 74 = .ok (.invokestatic 245, 3) := by decide +kernel
theorem d308_77 : decode (hs_code 308) 77 = .ok (.istore_n 2, 1) := by decide +kernel
theorem d308_78 : decode (hs_code 308) 78 = .ok (.iload_n 3, 1) := by decide +kernel
theorem d308_79 : decode (hs_code 308) 79 = .ok (.aload_n 0, 1) := by decide +kernel
theorem d308_80 : decode (hs_code 308) 80 = .ok (.getfield 35, 3) := by decide +kernel
theorem d308_83 : decode (hs_code 308) 83 = .ok (.bipush 26, 2) := by decide +kernel
theorem d308_85 : decode (hs_code 308) 85 = .ok (.iload 4, 2) := by decide +kernel
theorem d308_87 : decode (hs_code 308) 87 = .ok (.iadd, 1) := by decide +kernel
theorem d308_88 : decode (hs_code 308) 88 = .ok (.iaload, 1) := by decide +kernel
theorem d308_89 : decode (hs_code 308) 89 = .ok (.aload_n 0, 1) := by decide +kernel
theorem d308_90 : decode (hs_code 308) 90 = .ok (.iload_n 1, 1) := by decide +kernel
theorem d308_91 : decode (hs_code 308) 91 = .ok (.iload 4, 2) := by decide +kernel
theorem d308_93 : decode (hs_code 308) 93 = .ok (.invokevirtual 349, 3) := by decide +kernel
theorem d308_96 : decode (hs_code 308) 96 = .ok (.isub, 1) := by decide +kernel
theorem d308_97 : decode (hs_code 308) 97 = .ok (.invokestatic 245, 3) := by decide +kernel
theorem d308_100 : decode (hs_code 308) 100 = .ok (.istore_n 3, 1) := by decide +kernel
theorem d308_101 : decode (hs_code 308) 101 = .ok (.iinc 4 1, 3) := by decide +kernel
theorem d308_104 : decode (hs_code 308) 104 = .ok (.goto (-73), 3) := by decide +kernel
theorem d308_107 : decode (hs_code 308) 107 = .ok (.iload_n 2, 1) := by decide +kernel
theorem d308_108 : decode (hs_code 308) 108 = .ok (.iload_n 3, 1) := by decide +kernel
theorem d308_109 : decode (hs_code 308) 109 = .ok (.iadd, 1) := by decide +kernel
theorem d308_110 : decode (hs_code 308) 110 = .ok (.ireturn, 1) := by decide +kernel
theorem d309_0 : decode (hs_code 309) 0 = .ok (.aload_n 0, 1) := by decide +kernel
theorem d309_1 : decode (hs_code 309) 1 = .ok (.iconst 0, 1) := by decide +kernel
theorem d309_2 : decode (hs_code 309) 2 = .ok (.putfield 60, 3) := by decide +kernel
theorem d309_5 : decode (hs_code 309) 5 = .ok (.aload_n 0, 1) := by decide +kernel
theorem d309_6 : decode (hs_code 309) 6 = .ok (.iconst 0, 1) := by decide +kernel
theorem d309_7 : decode (hs_code 309) 7 = .ok (.putfield 63, 3) := by decide +kernel
theorem d309_10 : decode (hs_code 309) 10 = .ok (.iload_n 1, 1) := by decide +kernel
theorem d309_11 : decode (hs_code 309) 11 = .ok (.i2l, 1) := by decide +kernel
theorem d309_12 : decode (hs_code 309) 12 = .ok (.lconst 0, 1) := by decide +kernel
theorem d309_13 : decode (hs_code 309) 13 = .ok (.ldc2_w 408, 3) := by decide +kernel
theorem d309_16 : decode (hs_code 309) 16 = .ok (.invokestatic 95, 3) := by decide +kernel
theorem d309_19 : decode (hs_code 309) 19 = .ok (.ifCond .ne 9, 3) := by decide +kernel
theorem d309_22 : decode (hs_code 309) 22 = .ok (.aload_n 0, 1) := by decide +kernel
theorem d309_23 : decode (hs_code 309) 23 = .ok (.iconst 5, 1) := by decide +kernel
theorem d309_24 : decode (hs_code 309) 24 = .ok (.invokevirtual 322, 3) := by decide +kernel
theorem d309_27 : decode (hs_code 309) 27 = .ok (.ireturn, 1) := by decide +kernel
theorem d309_28 : decode (hs_code 309) 28 = .ok (.iconst 0, 1) := by decide +kernel
theorem d309_29 : decode (hs_code 309) 29 = .ok (.istore_n 2, 1) := by decide +kernel
theorem d309_30 : decode (hs_code 309) 30 = .ok (.iconst 0, 1) := by decide +kernel
theorem d309_31 : decode (hs_code 309) 31 = .ok (.istore_n 3, 1) := by decide +kernel
theorem d309_32 : decode (hs_code 309) 32 = .ok (.iload_n 3, 1) := by decide +kernel
theorem d309_33 : decode (hs_code 309) 33 = .ok (.iconst 2, 1) := by decide +kernel
theorem d309_34 : decode (hs_code 309) 34 = .ok (.if_icmp .gt 42, 3) := by decide +kernel
theorem d309_37 : decode (hs_code 309) 37 = .ok (.iconst 0, 1) := by decide +kernel
theorem d309_38 : decode (hs_code 309) 38 = .ok (.istore 4, 2) := by decide +kernel
theorem d309_40 : decode (hs_code 309) 40 = .ok (.iload 4, 2) := by decide +kernel
theorem d309_42 : decode (hs_code 309) 42 = .ok (.iconst 2, 1) := by decide +kernel
theorem d309_43 : decode (hs_code 309) 43 = .ok (.if_icmp .gt 27, 3) := by decide +kernel
theorem d309_46 : decode (hs_code 309) 46 = .ok (.iload_n 3, 1) := by decide +kernel
theorem d309_47 : decode (hs_code 309) 47 = .ok (.iload 4, 2) := by decide +kernel
theorem d309_49 : decode (hs_code 309) 49 = .ok (.iadd, 1) := by decide +kernel
theorem d309_50 : decode (hs_code 309) 50 = .ok (.iload_n 1, 1) := by decide +kernel
theorem d309_51 : decode (hs_code 309) 51 = .ok (.if_icmp .gt 19, 3) := by decide +kernel
theorem d309_54 : decode (hs_code 309) 54 = .ok (.iload_n 2, 1) := by decide +kernel
theorem d309_55 : decode (hs_code 309) 55 = .ok (.aload_n 0, 1) := by decide +kernel
theorem d309_56 : decode (hs_code 309) 56 = .ok (.iload_n 3, 1) := by decide +kernel
theorem d309_57 : decode (hs_code 309) 57 = .ok (.iload 4, 2) := by decide +kernel
theorem d309_59 : decode (hs_code 309) 59 = .ok (.invokevirtual 410, 3) := by decide +kernel
theorem d309_62 : decode (hs_code 309) 62 = .ok (.iadd, 1) := by decide +kernel
theorem d309_63 : decode (hs_code 309) 63 = .ok (.istore_n 2, 1) := by decide +kernel
theorem d309_64 : decode (hs_code 309) 64 = .ok (.iinc 4 1, 3) := by decide +kernel
theorem d309_67 : decode (hs_code 309) 67 = .ok (.goto (-27), 3) := by decide +kernel
theorem d309_70 : decode (hs_code 309) 70 = .ok (.iinc 3 1, 3) := by decide +kernel
theorem d309_73 : decode (hs_code 309) 73 = .ok (.goto (-41), 3) := by decide +kernel
theorem d309_76 : decode (hs_code 309) 76 = .ok (.iload_n 2, 1) := by decide +kernel
theorem d309_77 : decode (hs_code 309) 77 = .ok (.ireturn, 1) := by decide +kernel
theorem d310_0 : decode (hs_code 310) 0 = .ok (.aload_n 0, 1) := by decide +kernel
theorem d310_1 : decode (hs_code 310) 1 = .ok (.iload_n 1, 1) := by decide +kernel
theorem d310_2 : decode (hs_code 310) 2 = .ok (.iload_n 2, 1) := by decide +kernel
theorem d310_3 : decode (hs_code 310) 3 = .ok (.invokevirtual 405, 3) := by decide +kernel
theorem d310_6 : decode (hs_code 310) 6 = .ok (.istore_n 3, 1) := by decide +kernel
theorem d310_7 : decode (hs_code 310) 7 = .ok (.iload_n 1, 1) := by decide +kernel
theorem d310_8 : decode (hs_code 310) 8 = .ok (.ifCond .le 14, 3) := by decide +kernel
theorem d310_11 : decode (hs_code 310) 11 = .ok (.iload_n 3, 1) := by decide +kernel
theorem d310_12 : decode (hs_code 310) 12 = .ok (.aload_n 0, 1) := by decide +kernel
theorem d310_13 : decode (hs_code 310) 13 = .ok (.iload_n 1, 1) := by decide +kernel
theorem d310_14 : decode (hs_code 310) 14 = .ok (.iconst 1, 1) := by decide +kernel
theorem d310_15 : decode (hs_code 310) 15 = .ok (.isub, 1) := by decide +kernel
theorem d310_16 : decode (hs_code 310) 16 = .ok (.iload_n 2, 1) := by decide +kernel
theorem d310_17 : decode (hs_code 310) 17 = .ok (.invokevirtual 405, 3) := by decide +kernel
theorem d310_20 : decode (hs_code 310) 20 = .ok (.isub, 1) := by decide +kernel
theorem d310_21 : decode (hs_code 310) 21 = .ok (.istore_n 3, 1) := by decide +kernel
theorem d310_22 : decode (hs_code 310) 22 = .ok (.iload_n 2, 1) := by decide +kernel
theorem d310_23 : decode (hs_code 310) 23 = .ok (.ifCond .le 14, 3) := by decide +kernel
theorem d310_26 : decode (hs_code 310) 26 = .ok (.iload_n 3, 1) := by decide +kernel
theorem d310_27 : decode (hs_code 310) 27 = .ok (.aload_n 0, 1) := by decide +kernel
theorem d310_28 : decode (hs_code 310) 28 = .ok (.iload_n 1, 1) := by decide +kernel
theorem d310_29 : decode (hs_code 310) 29 = .ok (.iload_n 2, 1) := by decide +kernel
theorem d310_30 : decode (hs_code 310) 30 = .ok (.iconst 1, 1) := by decide +kernel
theorem d310_31 : decode (hs_code 310) 31 = .ok (.isub, 1) := by decide +kernel
theorem d310_32 : decode (hs_code 310) 32 = .ok (.invokevirtual 405, 3) := by decide +kernel
theorem d310_35 : decode (hs_code 310) 35 = .ok (.isub, 1) := by decide +kernel
theorem d310_36 : decode (hs_code 310) 36 = .ok (.istore_n 3, 1) := by decide +kernel
theorem d310_37 : decode (hs_code 310) 37 = .ok (.iload_n 1, 1) := by decide +kernel
theorem d310_38 : decode (hs_code 310) 38 = .ok (.ifCond .le 22, 3) := by decide +kernel
theorem d310_41 : decode (hs_code 310) 41 = .ok (.iload_n 2, 1) := by decide +kernel
theorem d310_42 : decode (hs_code 310) 42 = .ok (.ifCond .le 18, 3) := by decide +kernel
theorem d310_45 : decode (hs_code 310) 45 = .ok (.iload_n 3, 1) := by decide +kernel
theorem d310_46 : decode (hs_code 310) 46 = .ok (.aload_n 0, 1) := by decide +kernel
theorem d310_47 : decode (hs_code 310) 47 = .ok (.iload_n 1, 1) := by decide +kernel
theorem d310_48 : decode (hs_code 310) 48 = .ok (.iconst 1, 1) := by decide +kernel
theorem d310_49 : decode (hs_code 310) 49 = .ok (.isub, 1) := by decide +kernel
theorem d310_50 : decode (hs_code 310) 50 = .ok (.iload_n 2, 1) := by decide +kernel
theorem d310_51 : decode (hs_code 310) 51 = .ok (.iconst 1, 1) := by decide +kernel
theorem d310_52 : decode (hs_code 310) 52 = .ok (.isub, 1) := by decide +kernel
theorem d310_53 : decode (hs_code 310) 53 = .ok (.invokevirtual 405, 3) := by decide +kernel
theorem d310_56 : decode (hs_code 310) 56 = .ok (.iadd, 1) := by decide +kernel
theorem d310_57 : decode (hs_code 310) 57 = .ok (.goto 4, 3) := by decide +kernel
theorem d310_60 : decode (hs_code 310) 60 = .ok (.iload_n 3, 1) := by decide +kernel
theorem d310_61 : decode (hs_code 310) 61 = .ok (.ireturn, 1) := by decide +kernel
theorem d311_0 : decode (hs_code 311) 0 = .ok (.iconst 1, 1) := by decide +kernel
theorem d311_1 : decode (hs_code 311) 1 = .ok (.istore_n 3, 1) := by decide +kernel
theorem d311_2 : decode (hs_code 311) 2 = .ok (.iconst 0, 1) := by decide +kernel
theorem d311_3 : decode (hs_code 311) 3 = .ok (.istore 4, 2) := by decide +kernel
theorem d311_5 : decode (hs_code 311) 5 = .ok (.iload 4, 2) := by decide +kernel
theorem d311_7 : decode (hs_code 311) 7 = .ok (.aload_n 0, 1) := by decide +kernel
theorem d311_8 : decode (hs_code 311) 8 = .ok (.getfield 35, 3) := by decide +kernel
theorem d311_11 : decode (hs_code 311) 11 = .ok (.iconst 0, 1) := by decide +kernel
theorem d311_12 : decode (hs_code 311) 12 = .ok (.iaload, 1) := by decide +kernel
theorem d311_13 : decode (hs_code 311) 13 = .ok (.if_icmp .ge 47, 3) := by decide +kernel
theorem d311_16 : decode (hs_code 311) 16 = .ok (.iload_n 3, 1) := by decide +kernel
theorem d311_17 : decode (hs_code 311) 17 = .ok (.iconst 2, 1) := by decide +kernel
theorem d311_18 : decode (hs_code 311) 18 = .ok (.aload_n 0, 1) := by decide +kernel
theorem d311_19 : decode (hs_code 311) 19 = .ok (.getfield 35, 3) := by decide +kernel
theorem d311_22 : decode (hs_code 311) 22 = .ok (.bipush 26, 2) := by decide +kernel
theorem d311_24 : decode (hs_code 311) 24 = .ok (.iload 4, 2) := by decide +kernel
theorem d311_26 : decode (hs_code 311) 26 = .ok (.iadd, 1) := by decide +kernel
theorem d311_27 : decode (hs_code 311) 27 = .ok (.iaload, 1) := by decide +kernel
theorem d311_28 : decode (hs_code 311) 28 = .ok (.iload_n 1, 1) := by decide +kernel
theorem d311_29 : decode (hs_code 311) 29 = .ok (.iadd, 1) := by decide +kernel
theorem d311_30 : decode (hs_code 311) 30 = .ok (.invokestatic 317, 3) := by decide +kernel
theorem d311_33 : decode (hs_code 311) 33 = .ok (.iconst 0, 1) := by decide +kernel
theorem d311_34 : decode (hs_code 311) 34 = .ok (.aload_n 0, 1) := by decide +kernel
theorem d311_35 : decode (hs_code 311) 35 = .ok (.getfield 35, 3) := by decide +kernel
theorem d311_38 : decode (hs_code 311) 38 = .ok (.bipush 26, 2) := by decide +kernel
theorem d311_40 : decode (hs_code 311) 40 = .ok (.iload 4, 2) := by decide +kernel
theorem d311_42 : decode (hs_code 311) 42 = .ok (.iadd, 1) := by decide +kernel
theorem d311_43 : decode (hs_code 311) 43 = .ok (.iaload, 1) := by decide +kernel
theorem d311_44 : decode (hs_code 311) 44 = .ok (.iload_n 2, 1) := by decide +kernel
theorem d311_45 : decode (hs_code 311) 45 = .ok (.isub, 1) := by decide +kernel
theorem d311_46 : decode (hs_code 311) 46 = .ok (.invokestatic 245, 3) := by decide +kernel
theorem d311_49 : decode (hs_code 311) 49 = .ok (.isub, 1) := by decide +kernel
theorem d311_50 : decode (hs_code 311) 50 = .ok (.iconst 1, 1) := by decide +kernel
theorem d311_51 : decode (hs_code 311) 51 = .ok (.iadd, 1) := by decide +kernel
theorem d311_52 : decode (hs_code 311) 52 = .ok (.imul, 1) := by decide +kernel
theorem d311_53 : decode (hs_code 311) 53 = .ok (.istore_n 3, 1) := by decide +kernel
theorem d311_54 : decode (hs_code 311) 54 = .ok (.iinc 4 1, 3) := by decide +kernel
theorem d311_57 : decode (hs_code 311) 57 = .ok (.goto (-52), 3) := by decide +kernel
theorem d311_60 : decode (hs_code 311) 60 = .ok (.iload_n 3, 1) := by decide +kernel
theorem d311_61 : decode (hs_code 311) 61 = .ok (.ireturn, 1) := by decide +kernel
theorem d312_0 : decode (hs_code 312) 0 = .ok (.aload_n 0, 1) := by decide +kernel
theorem d312_1 : decode (hs_code 312) 1 = .ok (.iconst 0, 1) := by decide +kernel
theorem d312_2 : decode (hs_code 312) 2 = .ok (.putfield 60, 3) := by decide +kernel
theorem d312_5 : decode (hs_code 312) 5 = .ok (.aload_n 0, 1) := by decide +kernel
theorem d312_6 : decode (hs_code 312) 6 = .ok (.iconst 0, 1) := by decide +kernel
theorem d312_7 : decode (hs_code 312) 7 = .ok (.putfield 63, 3) := by decide +kernel
theorem d312_10 : decode (hs_code 312) 10 = .ok (.aload_n 0, 1) := by decide +kernel
theorem d312_11 : decode (hs_code 312) 11 = .ok (.iload_n 1, 1) := by decide +kernel
theorem d312_12 : decode (hs_code 312) 12 = .ok (.invokevirtual 346, 3) := by decide +kernel
theorem d312_15 : decode (hs_code 312) 15 = .ok (.ifCond .eq 11, 3) := by decide +kernel
theorem d312_18 : decode (hs_code 312) 18 = .ok (.aload_n 0, 1) := by decide +kernel
theorem d312_19 : decode (hs_code 312) 19 = .ok (.iload_n 2, 1) := by decide +kernel
theorem d312_20 : decode (hs_code 312) 20 = .ok (.invokevirtual 346, 3) := by decide +kernel
theorem d312_23 : decode (hs_code 312) 23 = .ok (.ifCond .ne 9, 3) := by decide +kernel
theorem d312_26 : decode (hs_code 312) 26 = .ok (.aload_n 0, 1) := by decide +kernel
theorem d312_27 : decode (hs_code 312) 27 = .ok (.iconst 2, 1) := by decide +kernel
theorem d312_28 : decode (hs_code 312) 28 = .ok (.invokevirtual 322, 3) := by decide +kernel
theorem d312_31 : decode (hs_code 312) 31 = .ok (.ireturn, 1) := by decide +kernel
theorem d312_32 : decode (hs_code 312) 32 = .ok (.iconst 0, 1) := by decide +kernel
theorem d312_33 : decode (hs_code 312) 33 = .ok (.istore_n 3, 1) := by decide +kernel
theorem d312_34 : decode (hs_code 312) 34 = .ok (.iload_n 3, 1) := by decide +kernel
theorem d312_35 : decode (hs_code 312) 35 = .ok (.aload_n 0, 1) := by decide +kernel
theorem d312_36 : decode (hs_code 312) 36 = .ok (.getfield 35, 3) := by decide +kernel
theorem d312_39 : decode (hs_code 312) 39 = .ok (.iconst 0, 1) := by decide +kernel
theorem d312_40 : decode (hs_code 312) 40 = .ok (.iaload, 1) := by decide +kernel
theorem d312_41 : decode (hs_code 312) 41 = .ok (.if_icmp .ge 46, 3) := by decide +kernel
theorem d312_44 : decode (hs_code 312) 44 = .ok (.aload_n 0, 1) := by decide +kernel
theorem d312_45 : decode (hs_code 312) 45 = .ok (.iload_n 1, 1) := by decide +kernel
theorem d312_46 : decode (hs_code 312) 46 = .ok (.iload_n 3, 1) := by decide +kernel
theorem d312_47 : decode (hs_code 312) 47 = .ok (.invokevirtual 349, 3) := by decide +kernel
theorem d312_50 : decode (hs_code 312) 50 = .ok (.iconst 3, 1) := by decide +kernel
theorem d312_51 : decode (hs_code 312) 51 = .ok (.if_icmp .eq 30, 3) := by decide +kernel
theorem d312_54 : decode (hs_code 312) 54 = .ok (.aload_n 0, 1) := by decide +kernel
theorem d312_55 : decode (hs_code 312) 55 = .ok (.iload_n 2, 1) := by decide +kernel
theorem d312_56 : decode (hs_code 312) 56 = .ok (.iload_n 3, 1) := by decide +kernel
theorem d312_57 : decode (hs_code 312) 57 = .ok (.invokevirtual 349, 3) := by decide +kernel
theorem d312_60 : decode (hs_code 312) 60 = .ok (.iconst 3, 1) := by decide +kernel
theorem d312_61 : decode (hs_code 312) 61 = .ok (.if_icmp .eq 20, 3) := by decide +kernel
theorem d312_64 : decode (hs_code 312) 64 = .ok (.aload_n 0, 1) := by decide +kernel
theorem d312_65 : decode (hs_code 312) 65 = .ok (.iload_n 1, 1) := by decide +kernel
theorem d312_66 : decode (hs_code 312) 66 = .ok (.iload_n 3, 1) := by decide +kernel
theorem d312_67 : decode (hs_code 312) 67 = .ok (.invokevirtual 349, 3) := by decide +kernel
theorem d312_70 : decode (hs_code 312) 70 = .ok (.aload_n 0, 1) := by decide +kernel
theorem d312_71 : decode (hs_code 312) 71 = .ok (.iload_n 2, 1) := by decide +kernel
theorem d312_72 : decode (hs_code 312) 72 = .ok (.iload_n 3, 1) := by decide +kernel
theorem d312_73 : decode (hs_code 312) 73 = .ok (.invokevirtual 349, 3) := by decide +kernel
theorem d312_76 : decode (hs_code 312) 76 = .ok (.if_icmp .eq 5, 3) := by decide +kernel
theorem d312_79 : decode (hs_code 312) 79 = .ok (.iconst 0, 1) := by decide +kernel
theorem d312_80 : decode (hs_code 312) 80 = .ok (.ireturn, 1) := by decide +kernel
theorem d312_81 : decode (hs_code 312) 81 = .ok (.iinc 3 1, 3) := by decide +kernel
theorem d312_84 : decode (hs_code 312) 84 = .ok (.goto (-50), 3) := by decide +kernel
theorem d312_87 : decode (hs_code 312) 87 = .ok (.iconst 1, 1) := by decide +kernel
theorem d312_88 : decode (hs_code 312) 88 = .ok (.ireturn, 1) := by decide +kernel
theorem d313_0 : decode (hs_code 313) 0 = .ok (.aload_n 0, 1) := by decide +kernel
theorem d313_1 : decode (hs_code 313) 1 = .ok (.iconst 0, 1) := by decide +kernel
theorem d313_2 : decode (hs_code 313) 2 = .ok (.putfield 60, 3) := by decide +kernel
theorem d313_5 : decode (hs_code 313) 5 = .ok (.aload_n 0, 1) := by decide +kernel
theorem d313_6 : decode (hs_code 313) 6 = .ok (.iconst 0, 1) := by decide +kernel
theorem d313_7 : decode (hs_code 313) 7 = .ok (.putfield 63, 3) := by decide +kernel
theorem d313_10 : decode (hs_code 313) 10 = .ok (.aload_n 0, 1) := by decide +kernel
theorem d313_11 : decode (hs_code 313) 11 = .ok (.iload_n 1, 1) := by decide +kernel
theorem d313_12 : decode (hs_code 313) 12 = .ok (.invokevirtual 340, 3) := by decide +kernel
theorem d313_15 : decode (hs_code 313) 15 = .ok (.ifCond .ne 9, 3) := by decide +kernel
theorem d313_18 : decode (hs_code 313) 18 = .ok (.aload_n 0, 1) := by decide +kernel
theorem d313_19 : decode (hs_code 313) 19 = .ok (.iconst 2, 1) := by decide +kernel
theorem d313_20 : decode (hs_code 313) 20 = .ok (.invokevirtual 322, 3) := by decide +kernel
theorem d313_23 : decode (hs_code 313) 23 = .ok (.ireturn, 1) := by decide +kernel
theorem d313_24 : decode (hs_code 313) 24 = .ok (.iload_n 2, 1) := by decide +kernel
theorem d313_25 : decode (hs_code 313) 25 = .ok (.invokestatic 413, 3) := by decide +kernel
theorem d313_28 : decode (hs_code 313) 28 = .ok (.ifCond .eq 15, 3) := by decide +kernel
theorem d313_31 : decode (hs_code 313) 31 = .ok (.aload_n 0, 1) := by decide +kernel
theorem d313_32 : decode (hs_code 313) 32 = .ok (.bipush 10, 2) := by decide +kernel
theorem d313_34 : decode (hs_code 313) 34 = .ok (.iload_n 1, 1) := by decide +kernel
theorem d313_35 : decode (hs_code 313) 35 = .ok (.iadd, 1) := by decide +kernel
theorem d313_36 : decode (hs_code 313) 36 = .ok (.iload_n 2, 1) := by decide +kernel
theorem d313_37 : decode (hs_code 313) 37 = .ok (.invokevirtual 416, 3) := by decide +kernel
theorem d313_40 : decode (hs_code 313) 40 = .ok (.goto 8, 3) := by decide +kernel
theorem d313_43 : decode (hs_code 313) 43 = .ok (.aload_n 0, 1) := by decide +kernel
theorem d313_44 : decode (hs_code 313) 44 = .ok (.iconst 5, 1) := by decide +kernel
theorem d313_45 : decode (hs_code 313) 45 = .ok (.invokevirtual 322, 3) := by decide +kernel
theorem d313_48 : decode (hs_code 313) 48 = .ok (.ireturn, 1) := by decide +kernel
theorem d314_0 : decode (hs_code 314) 0 = .ok (.iload_n 0, 1) := by decide +kernel
theorem d314_1 : decode (hs_code 314) 1 = .ok (.i2l, 1) := by decide +kernel
theorem d314_2 : decode (hs_code 314) 2 = .ok (.lconst 0, 1) := by decide +kernel
theorem d314_3 : decode (hs_code 314) 3 = .ok (.ldc2_w 397, 3) := by decide +kernel
theorem d314_6 : decode (hs_code 314) 6 = .ok (.invokestatic 95, 3) := by decide +kernel
theorem d314_9 : decode (hs_code 314) 9 = .ok (.ireturn, 1) := by decide +kernel
theorem d315_0 : decode (hs_code 315) 0 = .ok (.aload_n 0, 1) := by decide +kernel
theorem d315_1 : decode (hs_code 315) 1 = .ok (.invokevirtual 399, 3) := by decide +kernel
theorem d315_4 : decode (hs_code 315) 4 = .ok (.iconst 0, 1) := by decide +kernel
theorem d315_5 : decode (hs_code 315) 5 = .ok (.istore_n 3, 1) := by decide +kernel
theorem d315_6 : decode (hs_code 315) 6 = .ok (.iload_n 3, 1) := by decide +kernel
theorem d315_7 : decode (hs_code 315) 7 = .ok (.iload_n 2, 1) := by decide +kernel
theorem d315_8 : decode (hs_code 315) 8 = .ok (.if_icmp .ge 13, 3) := by decide +kernel
theorem d315_11 : decode (hs_code 315) 11 = .ok (.aload_n 0, 1) := by decide +kernel
theorem d315_12 : decode (hs_code 315) 12 = .ok (.invokevirtual 361, 3) := by decide +kernel
theorem d315_15 : decode (hs_code 315) 15 = .ok (.iinc 3 1, 3) := by decide +kernel
theorem d315_18 : decode (hs_code 315) 18 = .ok (.goto (-12), 3) := by decide +kernel
theorem d315_21 : decode (hs_code 315) 21 = .ok (.aload_n 0, 1) := by decide +kernel
theorem d315_22 : decode (hs_code 315) 22 = .ok (.getfield 35, 3) := by decide +kernel
theorem d315_25 : decode (hs_code 315) 25 = .ok (.iload_n 1, 1) := by decide +kernel
theorem d315_26 : decode (hs_code 315) 26 = .ok (.iaload, 1) := by decide +kernel
theorem d315_27 : decode (hs_code 315) 27 = .ok (.istore_n 3, 1) := by decide +kernel
theorem d315_28 : decode (hs_code 315) 28 = .ok (.aload_n 0, 1) := by decide +kernel
theorem d315_29 : decode (hs_code 315) 29 = .ok (.invokevirtual 402, 3) := by decide +kernel
theorem d315_32 : decode (hs_code 315) 32 = .ok (.iload_n 3, 1) := by decide +kernel
theorem d315_33 : decode (hs_code 315) 33 = .ok (.ireturn, 1) := by decide +kernel
theorem d316_0 : decode (hs_code 316) 0 = .ok (.aload_n 0, 1) := by decide +kernel
theorem d316_1 : decode (hs_code 316) 1 = .ok (.iconst 0, 1) := by decide +kernel
theorem d316_2 : decode (hs_code 316) 2 = .ok (.putfield 60, 3) := by decide +kernel
theorem d316_5 : decode (hs_code 316) 5 = .ok (.aload_n 0, 1) := by decide +kernel
theorem d316_6 : decode (hs_code 316) 6 = .ok (.iconst 0, 1) := by decide +kernel
theorem d316_7 : decode (hs_code 316) 7 = .ok (.putfield 63, 3) := by decide +kernel
theorem d316_10 : decode (hs_code 316) 10 = .ok (.aload_n 0, 1) := by decide +kernel
theorem d316_11 : decode (hs_code 316) 11 = .ok (.iload_n 1, 1) := by decide +kernel
theorem d316_12 : decode (hs_code 316) 12 = .ok (.invokevirtual 340, 3) := by decide +kernel
theorem d316_15 : decode (hs_code 316) 15 = .ok (.ifCond .ne 9, 3) := by decide +kernel
theorem d316_18 : decode (hs_code 316) 18 = .ok (.aload_n 0, 1) := by decide +kernel
theorem d316_19 : decode (hs_code 316) 19 = .ok (.iconst 2, 1) := by decide +kernel
theorem d316_20 : decode (hs_code 316) 20 = .ok (.invokevirtual 322, 3) := by decide +kernel
theorem d316_23 : decode (hs_code 316) 23 = .ok (.ireturn, 1) := by decide +kernel
theorem d316_24 : decode (hs_code 316) 24 = .ok (.iload_n 2, 1) := by decide +kernel
theorem d316_25 : decode (hs_code 316) 25 = .ok (.invokestatic 413, 3) := by decide +kernel
theorem d316_28 : decode (hs_code 316) 28 = .ok (.ifCond .eq 15, 3) := by decide +kernel
theorem d316_31 : decode (hs_code 316) 31 = .ok (.aload_n 0, 1) := by decide +kernel
theorem d316_32 : decode (hs_code 316) 32 = .ok (.bipush 26, 2) := by decide +kernel
theorem d316_34 : decode (hs_code 316) 34 = .ok (.iload_n 1, 1) := by decide +kernel
theorem d316_35 : decode (hs_code 316) 35 = .ok (.iadd, 1) := by decide +kernel
theorem d316_36 : decode (hs_code 316) 36 = .ok (.iload_n 2, 1) := by decide +kernel
theorem d316_37 : decode (hs_code 316) 37 = .ok (.invokevirtual 416, 3) := by decide +kernel
theorem d316_40 : decode (hs_code 316) 40 = .ok (.goto 8, 3) := by decide +kernel
theorem d316_43 : decode (hs_code 316) 43 = .ok (.aload_n 0, 1) := by decide +kernel
theorem d316_44 : decode (hs_code 316) 44 = .ok (.iconst 5, 1) := by decide +kernel
theorem d316_45 : decode (hs_code 316) 45 = .ok (.invokevirtual 322, 3) := by decide +kernel
theorem d316_48 : decode (hs_code 316) 48 = .ok (.ireturn, 1) := by decide +kernel
theorem d317_0 : decode (hs_code 317) 0 = .ok (.aload_n 0, 1) := by decide +kernel
theorem d317_1 : decode (hs_code 317) 1 = .ok (.iconst 0, 1) := by decide +kernel
theorem d317_2 : decode (hs_code 317) 2 = .ok (.putfield 60, 3) := by decide +kernel
theorem d317_5 : decode (hs_code 317) 5 = .ok (.aload_n 0, 1) := by decide +kernel
theorem d317_6 : decode (hs_code 317) 6 = .ok (.iconst 0, 1) := by decide +kernel
theorem d317_7 : decode (hs_code 317) 7 = .ok (.putfield 63, 3) := by decide +kernel
theorem d317_10 : decode (hs_code 317) 10 = .ok (.aload_n 0, 1) := by decide +kernel
theorem d317_11 : decode (hs_code 317) 11 = .ok (.iload_n 1, 1) := by decide +kernel
theorem d317_12 : decode (hs_code 317) 12 = .ok (.invokevirtual 340, 3) := by decide +kernel
theorem d317_15 : decode (hs_code 317) 15 = .ok (.ifCond .ne 9, 3) := by decide +kernel
theorem d317_18 : decode (hs_code 317) 18 = .ok (.aload_n 0, 1) := by decide +kernel
theorem d317_19 : decode (hs_code 317) 19 = .ok (.iconst 2, 1) := by decide +kernel
theorem d317_20 : decode (hs_code 317) 20 = .ok (.invokevirtual 322, 3) := by decide +kernel
theorem d317_23 : decode (hs_code 317) 23 = .ok (.ireturn, 1) := by decide +kernel
theorem d317_24 : decode (hs_code 317) 24 = .ok (.iload_n 2, 1) := by decide +kernel
theorem d317_25 : decode (hs_code 317) 25 = .ok (.i2l, 1) := by decide +kernel
theorem d317_26 : decode (hs_code 317) 26 = .ok (.lconst 0, 1) := by decide +kernel
theorem d317_27 : decode (hs_code 317) 27 = .ok (.ldc2_w 359, 3) := by decide +kernel
theorem d317_30 : decode (hs_code 317) 30 = .ok (.invokestatic 95, 3) := by decide +kernel
theorem d317_33 : decode (hs_code 317) 33 = .ok (.ifCond .ne 9, 3) := by decide +kernel
theorem d317_36 : decode (hs_code 317) 36 = .ok (.aload_n 0, 1) := by decide +kernel
theorem d317_37 : decode (hs_code 317) 37 = .ok (.iconst 5, 1) := by decide +kernel
theorem d317_38 : decode (hs_code 317) 38 = .ok (.invokevirtual 322, 3) := by decide +kernel
theorem d317_41 : decode (hs_code 317) 41 = .ok (.ireturn, 1) := by decide +kernel
theorem d317_42 : decode (hs_code 317) 42 = .ok (.iconst (-1), 1) := by decide +kernel
theorem d317_43 : decode (hs_code 317) 43 = .ok (.istore_n 3, 1) := by decide +kernel
theorem d317_44 : decode (hs_code 317) 44 = .ok (.aload_n 0, 1) := by decide +kernel
theorem d317_45 : decode (hs_code 317) 45 = .ok (.invokevirtual 399, 3) := by decide +kernel
theorem d317_48 : decode (hs_code 317) 48 = .ok (.iconst 0, 1) := by decide +kernel
theorem d317_49 : decode (hs_code 317) 49 = .ok (.istore 4, 2) := by decide +kernel
theorem d317_51 : decode (hs_code 317) 51 = .ok (.iload 4, 2) := by decide +kernel
theorem d317_53 : decode (hs_code 317) 53 = .ok (.sipush 200, 3) := by decide +kernel
theorem d317_56 : decode (hs_code 317) 56 = .ok (.if_icmp .gt 33, 3) := by decide +kernel
theorem d317_59 : decode (hs_code 317) 59 = .ok (.iload_n 3, 1) := by decide +kernel
theorem d317_60 : decode (hs_code 317) 60 = .ok (.ifCond .ge 29, 3) := by decide +kernel
theorem d317_63 : decode (hs_code 317) 63 = .ok (.aload_n 0, 1) := by decide +kernel
theorem d317_64 : decode (hs_code 317) 64 = .ok (.getfield 35, 3) := by decide +kernel
theorem d317_67 : decode (hs_code 317) 67 = .ok (.bipush 10, 2) := by decide +kernel
theorem d317_69 : decode (hs_code 317) 69 = .ok (.iload_n 1, 1) := by decide +kernel
theorem d317_70 : decode (hs_code 317) 70 = .ok (.iadd, 1) := by decide +kernel
theorem d317_71 : decode (hs_code 317) 71 = .ok (.iaload, 1) := by decide +kernel
theorem d317_72 : decode (hs_code 317) 72 = .ok (.iload_n 2, 1) := by decide +kernel
theorem d317_73 : decode (hs_code 317) 73 = .ok (.if_icmp .lt 6, 3) := by decide +kernel
theorem d317_76 : decode (hs_code 317) 76 = .ok (.iload 4, 2) := by decide +kernel
theorem d317_78 : decode (hs_code 317) 78 = .ok (.istore_n 3, 1) := by decide +kernel
theorem d317_79 : decode (hs_code 317) 79 = .ok (.aload_n 0, 1) := by decide +kernel
theorem d317_80 : decode (hs_code 317) 80 = .ok (.invokevirtual 361, 3) := by decide +kernel
theorem d317_83 : decode (hs_code 317) 83 = .ok (.iinc 4 1, 3) := by decide +kernel
theorem d317_86 : decode (hs_code 317) 86 = .ok (.goto (-35), 3) := by decide +kernel
theorem d317_89 : decode (hs_code 317) 89 = .ok (.aload_n 0, 1) := by decide +kernel
theorem d317_90 : decode (hs_code 317) 90 = .ok (.invokevirtual 402, 3) := by decide +kernel
theorem d317_93 : decode (hs_code 317) 93 = .ok (.iload_n 3, 1) := by decide +kernel
theorem d317_94 : decode (hs_code 317) 94 = .ok (.ifCond .ge 12, 3) := by decide +kernel
theorem d317_97 : decode (hs_code 317) 97 = .ok (.aload_n 0, 1) := by decide +kernel
theorem d317_98 : decode (hs_code 317) 98 = .ok (.bipush 8, 2) := by decide +kernel
theorem d317_100 : decode (hs_code 317) 100 = .ok (.invokevirtual 322, 3) := by decide +kernel
theorem d317_103 : decode (hs_code 317) 103 = .ok (.goto 4, 3) := by decide +kernel
theorem d317_106 : decode (hs_code 317) 106 = .ok (.iload_n 3, 1) := by decide +kernel
theorem d317_107 : decode (hs_code 317) 107 = .ok (.ireturn, 1) := by decide +kernel
theorem d318_0 : decode (hs_code 318) 0 = .ok (.aload_n 0, 1) := by decide +kernel
theorem d318_1 : decode (hs_code 318) 1 = .ok (.iconst 0, 1) := by decide +kernel
theorem d318_2 : decode (hs_code 318) 2 = .ok (.putfield 60, 3) := by decide +kernel
theorem d318_5 : decode (hs_code 318) 5 = .ok (.aload_n 0, 1) := by decide +kernel
theorem d318_6 : decode (hs_code 318) 6 = .ok (.iconst 0, 1) := by decide +kernel
theorem d318_7 : decode (hs_code 318) 7 = .ok (.putfield 63, 3) := by decide +kernel
theorem d318_10 : decode (hs_code 318) 10 = .ok (.iconst (-1), 1) := by decide +kernel
theorem d318_11 : decode (hs_code 318) 11 = .ok (.istore_n 1, 1) := by decide +kernel
theorem d318_12 : decode (hs_code 318) 12 = .ok (.aload_n 0, 1) := by decide +kernel
theorem d318_13 : decode (hs_code 318) 13 = .ok (.invokevirtual 399, 3) := by decide +kernel
theorem d318_16 : decode (hs_code 318) 16 = .ok (.iconst 0, 1) := by decide +kernel
theorem d318_17 : decode (hs_code 318) 17 = .ok (.istore_n 2, 1) := by decide +kernel
theorem d318_18 : decode (hs_code 318) 18 = .ok (.iload_n 2, 1) := by decide +kernel
theorem d318_19 : decode (hs_code 318) 19 = .ok (.sipush 200, 3) := by decide +kernel
theorem d318_22 : decode (hs_code 318) 22 = .ok (.if_icmp .gt 26, 3) := by decide +kernel
theorem d318_25 : decode (hs_code 318) 25 = .ok (.iload_n 1, 1) := by decide +kernel
theorem d318_26 : decode (hs_code 318) 26 = .ok (.ifCond .ge 22, 3) := by decide +kernel
theorem d318_29 : decode (hs_code 318) 29 = .ok (.aload_n 0, 1) := by decide +kernel
theorem d318_30 : decode (hs_code 318) 30 = .ok (.invokevirtual 419, 3) := by decide +kernel
theorem d318_33 : decode (hs_code 318) 33 = .ok (.ifCond .eq 5, 3) := by decide +kernel
theorem d318_36 : decode (hs_code 318) 36 = .ok (.iload_n 2, 1) := by decide +kernel
theorem d318_37 : decode (hs_code 318) 37 = .ok (.istore_n 1, 1) := by decide +kernel
theorem d318_38 : decode (hs_code 318) 38 = .ok (.aload_n 0, 1) := by decide +kernel
theorem d318_39 : decode (hs_code 318) 39 = .ok (.invokevirtual 361, 3) := by decide +kernel
theorem d318_42 : decode (hs_code 318) 42 = .ok (.iinc 2 1, 3) := by decide +kernel
theorem d318_45 : decode (hs_code 318) 45 = .ok (.goto (-27), 3) := by decide +kernel
theorem d318_48 : decode (hs_code 318) 48 = .ok (.aload_n 0, 1) := by decide +kernel
theorem d318_49 : decode (hs_code 318) 49 = .ok (.invokevirtual 402, 3) := by decide +kernel
theorem d318_52 : decode (hs_code 318) 52 = .ok (.iload_n 1, 1) := by decide +kernel
theorem d318_53 : decode (hs_code 318) 53 = .ok (.ifCond .ge 12, 3) := by decide +kernel
theorem d318_56 : decode (hs_code 318) 56 = .ok (.aload_n 0, 1) := by decide +kernel
theorem d318_57 : decode (hs_code 318) 57 = .ok (.bipush 8, 2) := by decide +kernel
theorem d318_59 : decode (hs_code 318) 59 = .ok (.invokevirtual 322, 3) := by decide +kernel
theorem d318_62 : decode (hs_code 318) 62 = .ok (.goto 4, 3) := by decide +kernel
theorem d318_65 : decode (hs_code 318) 65 = .ok (.iload_n 1, 1) := by decide +kernel
theorem d318_66 : decode (hs_code 318) 66 = .ok (.ireturn, 1) := by decide +kernel
theorem d319_0 : decode (hs_code 319) 0 = .ok (.iconst 1, 1) := by decide +kernel
theorem d319_1 : decode (hs_code 319) 1 = .ok (.istore_n 1, 1) := by decide +kernel
theorem d319_2 : decode (hs_code 319) 2 = .ok (.iload_n 1, 1) := by decide +kernel
theorem d319_3 : decode (hs_code 319) 3 = .ok (.aload_n 0, 1) := by decide +kernel
theorem d319_4 : decode (hs_code 319) 4 = .ok (.getfield 35, 3) := by decide +kernel
theorem d319_7 : decode (hs_code 319) 7 = .ok (.iconst 0, 1) := by decide +kernel
theorem d319_8 : decode (hs_code 319) 8 = .ok (.iaload, 1) := by decide +kernel
theorem d319_9 : decode (hs_code 319) 9 = .ok (.if_icmp .ge 30, 3) := by decide +kernel
theorem d319_12 : decode (hs_code 319) 12 = .ok (.aload_n 0, 1) := by decide +kernel
theorem d319_13 : decode (hs_code 319) 13 = .ok (.getfield 35, 3) := by decide +kernel
theorem d319_16 : decode (hs_code 319) 16 = .ok (.bipush 26, 2) := by decide +kernel
theorem d319_18 : decode (hs_code 319) 18 = .ok (.iload_n 1, 1) := by decide +kernel
theorem d319_19 : decode (hs_code 319) 19 = .ok (.iadd, 1) := by decide +kernel
theorem d319_20 : decode (hs_code 319) 20 = .ok (.iaload, 1) := by decide +kernel
theorem d319_21 : decode (hs_code 319) 21 = .ok (.aload_n 0, 1) := by decide +kernel
theorem d319_22 : decode (hs_code 319) 22 = .ok (.getfield 35, 3) := by decide +kernel
theorem d319_25 : decode (hs_code 319) 25 = .ok (.bipush 26, 2) := by decide +kernel
theorem d319_27 : decode (hs_code 319) 27 = .ok (.iaload, 1) := by decide +kernel
theorem d319_28 : decode (hs_code 319) 28 = .ok (.if_icmp .eq 5, 3) := by decide +kernel
theorem d319_31 : decode (hs_code 319) 31 = .ok (.iconst 0, 1) := by decide +kernel
theorem d319_32 : decode (hs_code 319) 32 = .ok (.ireturn, 1) := by decide +kernel
theorem d319_33 : decode (hs_code 319) 33 = .ok (.iinc 1 1, 3) := by decide +kernel
theorem d319_36 : decode (hs_code 319) 36 = .ok (.goto (-34), 3) := by decide +kernel
theorem d319_39 : decode (hs_code 319) 39 = .ok (.iconst 1, 1) := by decide +kernel
theorem d319_40 : decode (hs_code 319) 40 = .ok (.ireturn, 1) := by decide +kernel
theorem d320_0 : decode (hs_code 320) 0 = .ok (.aload_n 0, 1) := by decide +kernel
theorem d320_1 : decode (hs_code 320) 1 = .ok (.iconst 0, 1) := by decide +kernel
theorem d320_2 : decode (hs_code 320) 2 = .ok (.putfield 60, 3) := by decide +kernel
theorem d320_5 : decode (hs_code 320) 5 = .ok (.aload_n 0, 1) := by decide +kernel
theorem d320_6 : decode (hs_code 320) 6 = .ok (.iconst 0, 1) := by decide +kernel
theorem d320_7 : decode (hs_code 320) 7 = .ok (.putfield 63, 3) := by decide +kernel
theorem d320_10 : decode (hs_code 320) 10 = .ok (.iload_n 1, 1) := by decide +kernel
theorem d320_11 : decode (hs_code 320) 11 = .ok (.i2l, 1) := by decide +kernel
theorem d320_12 : decode (hs_code 320) 12 = .ok (.lconst 0, 1) := by decide +kernel
theorem d320_13 : decode (hs_code 320) 13 = .ok (.ldc2_w 422, 3) := by decide +kernel
theorem d320_16 : decode (hs_code 320) 16 = .ok (.invokestatic 95, 3) := by decide +kernel
theorem d320_19 : decode (hs_code 320) 19 = .ok (.ifCond .eq 22, 3) := by decide +kernel
theorem d320_22 : decode (hs_code 320) 22 = .ok (.aload_n 0, 1) := by decide +kernel
theorem d320_23 : decode (hs_code 320) 23 = .ok (.aload_n 0, 1) := by decide +kernel
theorem d320_24 : decode (hs_code 320) 24 = .ok (.getfield 35, 3) := by decide +kernel
theorem d320_27 : decode (hs_code 320) 27 = .ok (.bipush 8, 2) := by decide +kernel
theorem d320_29 : decode (hs_code 320) 29 = .ok (.iaload, 1) := by decide +kernel
theorem d320_30 : decode (hs_code 320) 30 = .ok (.iload_n 1, 1) := by decide +kernel
theorem d320_31 : decode (hs_code 320) 31 = .ok (.iadd, 1) := by decide +kernel
theorem d320_32 : decode (hs_code 320) 32 = .ok (.invokevirtual 328, 3) := by decide +kernel
theorem d320_35 : decode (hs_code 320) 35 = .ok (.invokestatic 424, 3) := by decide +kernel
theorem d320_38 : decode (hs_code 320) 38 = .ok (.goto 8, 3) := by decide +kernel
theorem d320_41 : decode (hs_code 320) 41 = .ok (.aload_n 0, 1) := by decide +kernel
theorem d320_42 : decode (hs_code 320) 42 = .ok (.iconst 5, 1) := by decide +kernel
theorem d320_43 : decode (hs_code 320) 43 = .ok (.invokevirtual 322, 3) := by decide +kernel
theorem d320_46 : decode (hs_code 320) 46 = .ok (.ireturn, 1) := by decide +kernel
theorem d321_0 : decode (hs_code 321) 0 = .ok (.iconst 0, 1) := by decide +kernel
theorem d321_1 : decode (hs_code 321) 1 = .ok (.istore_n 1, 1) := by decide +kernel
theorem d321_2 : decode (hs_code 321) 2 = .ok (.iconst 0, 1) := by decide +kernel
theorem d321_3 : decode (hs_code 321) 3 = .ok (.istore_n 2, 1) := by decide +kernel
theorem d321_4 : decode (hs_code 321) 4 = .ok (.iload_n 2, 1) := by decide +kernel
theorem d321_5 : decode (hs_code 321) 5 = .ok (.bipush 10, 2) := by decide +kernel
theorem d321_7 : decode (hs_code 321) 7 = .ok (.if_icmp .ge 25, 3) := by decide +kernel
theorem d321_10 : decode (hs_code 321) 10 = .ok (.iload_n 1, 1) := by decide +kernel
theorem d321_11 : decode (hs_code 321) 11 = .ok (.iload_n 0, 1) := by decide +kernel
theorem d321_12 : decode (hs_code 321) 12 = .ok (.iload_n 2, 1) := by decide +kernel
theorem d321_13 : decode (hs_code 321) 13 = .ok (.invokestatic 99, 3) := by decide +kernel
theorem d321_16 : decode (hs_code 321) 16 = .ok (.ifCond .eq 7, 3) := by decide +kernel
theorem d321_19 : decode (hs_code 321) 19 = .ok (.iconst 1, 1) := by decide +kernel
theorem d321_20 : decode (hs_code 321) 20 = .ok (.goto 4, 3) := by decide +kernel
theorem d321_23 : decode (hs_code 321) 23 = .ok (.iconst 0, 1) := by decide +kernel
theorem d321_24 : decode (hs_code 321) 24 = .ok (.iadd, 1) := by decide +kernel
theorem d321_25 : decode (hs_code 321) 25 = .ok (.istore_n 1, 1) := by decide +kernel
theorem d321_26 : decode (hs_code 321) 26 = .ok (.iinc 2 1, 3) := by decide +kernel
theorem d321_29 : decode (hs_code 321) 29 = .ok (.goto (-25), 3) := by decide +kernel
theorem d321_32 : decode (hs_code 321) 32 = .ok (.iload_n 1, 1) := by decide +kernel
theorem d321_33 : decode (hs_code 321) 33 = .ok (.ireturn, 1) := by decide +kernel
theorem d322_0 : decode (hs_code 322) 0 = .ok (.aload_n 0, 1) := by decide +kernel
theorem d322_1 : decode (hs_code 322) 1 = .ok (.iconst 0, 1) := by decide +kernel
theorem d322_2 : decode (hs_code 322) 2 = .ok (.putfield 60, 3) := by decide +kernel
theorem d322_5 : decode (hs_code 322) 5 = .ok (.aload_n 0, 1) := by decide +kernel
theorem d322_6 : decode (hs_code 322) 6 = .ok (.aload_n 0, 1) := by decide +kernel
theorem d322_7 : decode (hs_code 322) 7 = .ok (.iload_n 1, 1) := by decide +kernel
theorem d322_8 : decode (hs_code 322) 8 = .ok (.iload_n 2, 1) := by decide +kernel
theorem d322_9 : decode (hs_code 322) 9 = .ok (.invokevirtual 367, 3) := by decide +kernel
theorem d322_12 : decode (hs_code 322) 12 = .ok (.putfield 63, 3) := by decide +kernel
theorem d322_15 : decode (hs_code 322) 15 = .ok (.aload_n 0, 1) := by decide +kernel
theorem d322_16 : decode (hs_code 322) 16 = .ok (.getfield 63, 3) := by decide +kernel
theorem d322_19 : decode (hs_code 322) 19 = .ok (.ifCond .le 7, 3) := by decide +kernel
theorem d322_22 : decode (hs_code 322) 22 = .ok (.iconst (-1), 1) := by decide +kernel
theorem d322_23 : decode (hs_code 322) 23 = .ok (.goto 9, 3) := by decide +kernel
theorem d322_26 : decode (hs_code 322) 26 = .ok (.aload_n 0, 1) := by decide +kernel
theorem d322_27 : decode (hs_code 322) 27 = .ok (.iload_n 1, 1) := by decide +kernel
theorem d322_28 : decode (hs_code 322) 28 = .ok (.iload_n 2, 1) := by decide +kernel
theorem d322_29 : decode (hs_code 322) 29 = .ok (.invokevirtual 375, 3) := by decide +kernel
theorem d322_32 : decode (hs_code 322) 32 = .ok (.ireturn, 1) := by decide +kernel
theorem d323_0 : decode (hs_code 323) 0 = .ok (.aload_n 0, 1) := by decide +kernel
theorem d323_1 : decode (hs_code 323) 1 = .ok (.iconst 0, 1) := by decide +kernel
theorem d323_2 : decode (hs_code 323) 2 = .ok (.putfield 60, 3) := by decide +kernel
theorem d323_5 : decode (hs_code 323) 5 = .ok (.aload_n 0, 1) := by decide +kernel
theorem d323_6 : decode (hs_code 323) 6 = .ok (.iconst 0, 1) := by decide +kernel
theorem d323_7 : decode (hs_code 323) 7 = .ok (.putfield 63, 3) := by decide +kernel
theorem d323_10 : decode (hs_code 323) 10 = .ok (.aload_n 0, 1) := by decide +kernel
theorem d323_11 : decode (hs_code 323) 11 = .ok (.iload_n 1, 1) := by decide +kernel
theorem d323_12 : decode (hs_code 323) 12 = .ok (.invokevirtual 340, 3) := by decide +kernel
theorem d323_15 : decode (hs_code 323) 15 = .ok (.ifCond .ne 9, 3) := by decide +kernel
theorem d323_18 : decode (hs_code 323) 18 = .ok (.aload_n 0, 1) := by decide +kernel
theorem d323_19 : decode (hs_code 323) 19 = .ok (.iconst 2, 1) := by decide +kernel
theorem d323_20 : decode (hs_code 323) 20 = .ok (.invokevirtual 322, 3) := by decide +kernel
theorem d323_23 : decode (hs_code 323) 23 = .ok (.ireturn, 1) := by decide +kernel
theorem d323_24 : decode (hs_code 323) 24 = .ok (.iconst 0, 1) := by decide +kernel
theorem d323_25 : decode (hs_code 323) 25 = .ok (.istore_n 2, 1) := by decide +kernel
theorem d323_26 : decode (hs_code 323) 26 = .ok (.iload_n 2, 1) := by decide +kernel
theorem d323_27 : decode (hs_code 323) 27 = .ok (.aload_n 0, 1) := by decide +kernel
theorem d323_28 : decode (hs_code 323) 28 = .ok (.getfield 35, 3) := by decide +kernel
theorem d323_31 : decode (hs_code 323) 31 = .ok (.bipush 10, 2) := by decide +kernel
theorem d323_33 : decode (hs_code 323) 33 = .ok (.iload_n 1, 1) := by decide +kernel
theorem d323_34 : decode (hs_code 323) 34 = .ok (.iadd, 1) := by decide +kernel
theorem d323_35 : decode (hs_code 323) 35 = .ok (.iaload, 1) := by decide +kernel
theorem d323_36 : decode (hs_code 323) 36 = .ok (.if_icmp .ge 20, 3) := by decide +kernel
theorem d323_39 : decode (hs_code 323) 39 = .ok (.aload_n 0, 1) := by decide +kernel
theorem d323_40 : decode (hs_code 323) 40 = .ok (.iload_n 1, 1) := by decide +kernel
theorem d323_41 : decode (hs_code 323) 41 = .ok (.iload_n 2, 1) := by decide +kernel
theorem d323_42 : decode (hs_code 323) 42 = .ok (.invokevirtual 375, 3) := by decide +kernel
theorem d323_45 : decode (hs_code 323) 45 = .ok (.ifCond .le 5, 3) := by decide +kernel
theorem d323_48 : decode (hs_code 323) 48 = .ok (.iload_n 2, 1) := by decide +kernel
theorem d323_49 : decode (hs_code 323) 49 = .ok (.ireturn, 1) := by decide +kernel
theorem d323_50 : decode (hs_code 323) 50 = .ok (.iinc 2 1, 3) := by decide +kernel
theorem d323_53 : decode (hs_code 323) 53 = .ok (.goto (-27), 3) := by decide +kernel
theorem d323_56 : decode (hs_code 323) 56 = .ok (.aload_n 0, 1) := by decide +kernel
theorem d323_57 : decode (hs_code 323) 57 = .ok (.bipush 8, 2) := by decide +kernel
theorem d323_59 : decode (hs_code 323) 59 = .ok (.invokevirtual 322, 3) := by decide +kernel
theorem d323_62 : decode (hs_code 323) 62 = .ok (.ireturn, 1) := by decide +kernel
theorem d324_0 : decode (hs_code 324) 0 = .ok (.aload_n 0, 1) := by decide +kernel
theorem d324_1 : decode (hs_code 324) 1 = .ok (.iconst 0, 1) := by decide +kernel
theorem d324_2 : decode (hs_code 324) 2 = .ok (.putfield 60, 3) := by decide +kernel
theorem d324_5 : decode (hs_code 324) 5 = .ok (.aload_n 0, 1) := by decide +kernel
theorem d324_6 : decode (hs_code 324) 6 = .ok (.iconst 0, 1) := by decide +kernel
theorem d324_7 : decode (hs_code 324) 7 = .ok (.putfield 63, 3) := by decide +kernel
theorem d324_10 : decode (hs_code 324) 10 = .ok (.iload_n 1, 1) := by decide +kernel
theorem d324_11 : decode (hs_code 324) 11 = .ok (.i2l, 1) := by decide +kernel
theorem d324_12 : decode (hs_code 324) 12 = .ok (.lconst 0, 1) := by decide +kernel
theorem d324_13 : decode (hs_code 324) 13 = .ok (.ldc2_w 422, 3) := by decide +kernel
theorem d324_16 : decode (hs_code 324) 16 = .ok (.invokestatic 95, 3) := by decide +kernel
theorem d324_19 : decode (hs_code 324) 19 = .ok (.ifCond .eq 14, 3) := by decide +kernel
theorem d324_22 : decode (hs_code 324) 22 = .ok (.aload_n 0, 1) := by decide +kernel
theorem d324_23 : decode (hs_code 324) 23 = .ok (.iload_n 1, 1) := by decide +kernel
theorem d324_24 : decode (hs_code 324) 24 = .ok (.invokevirtual 430, 3) := by decide +kernel
theorem d324_27 : decode (hs_code 324) 27 = .ok (.invokestatic 424, 3) := by decide +kernel
theorem d324_30 : decode (hs_code 324) 30 = .ok (.goto 8, 3) := by decide +kernel
theorem d324_33 : decode (hs_code 324) 33 = .ok (.aload_n 0, 1) := by decide +kernel
theorem d324_34 : decode (hs_code 324) 34 = .ok (.iconst 5, 1) := by decide +kernel
theorem d324_35 : decode (hs_code 324) 35 = .ok (.invokevirtual 322, 3) := by decide +kernel
theorem d324_38 : decode (hs_code 324) 38 = .ok (.ireturn, 1) := by decide +kernel
theorem d325_0 : decode (hs_code 325) 0 = .ok (.iconst 1, 1) := by decide +kernel
theorem d325_1 : decode (hs_code 325) 1 = .ok (.aload_n 0, 1) := by decide +kernel
theorem d325_2 : decode (hs_code 325) 2 = .ok (.getfield 35, 3) := by decide +kernel
theorem d325_5 : decode (hs_code 325) 5 = .ok (.iconst 0, 1) := by decide +kernel
theorem d325_6 : decode (hs_code 325) 6 = .ok (.iaload, 1) := by decide +kernel
theorem d325_7 : decode (hs_code 325) 7 = .ok (.ishl, 1) := by decide +kernel
theorem d325_8 : decode (hs_code 325) 8 = .ok (.iconst 1, 1) := by decide +kernel
theorem d325_9 : decode (hs_code 325) 9 = .ok (.isub, 1) := by decide +kernel
theorem d325_10 : decode (hs_code 325) 10 = .ok (.istore_n 2, 1) := by decide +kernel
theorem d325_11 : decode (hs_code 325) 11 = .ok (.iload_n 2, 1) := by decide +kernel
theorem d325_12 : decode (hs_code 325) 12 = .ok (.istore_n 3, 1) := by decide +kernel
theorem d325_13 : decode (hs_code 325) 13 = .ok (.iconst 0, 1) := by decide +kernel
theorem d325_14 : decode (hs_code 325) 14 = .ok (.istore 4, 2) := by decide +kernel
theorem d325_16 : decode (hs_code 325) 16 = .ok (.iload 4, 2) := by decide +kernel
theorem d325_18 : decode (hs_code 325) 18 = .ok (.iload_n 2, 1) := by decide +kernel
theorem d325_19 : decode (hs_code 325) 19 = .ok (.if_icmp .gt 56, 3) := by decide +kernel
theorem d325_22 : decode (hs_code 325) 22 = .ok (.aload_n 0, 1) := by decide +kernel
theorem d325_23 : decode (hs_code 325) 23 = .ok (.iload_n 2, 1) := by decide +kernel
theorem d325_24 : decode (hs_code 325) 24 = .ok (.iload 4, 2) := by decide +kernel
theorem d325_26 : decode (hs_code 325) 26 = .ok (.iconst (-1), 1) := by decide +kernel
theorem d325_27 : decode (hs_code 325) 27 = .ok (.ixor, 1) := by decide +kernel
theorem d325_28 : decode (hs_code 325) 28 = .ok (.iand, 1) := by decide +kernel
theorem d325_29 : decode (hs_code 325) 29 = .ok (.invokevirtual 427, 3) := by decide +kernel
theorem d325_32 : decode (hs_code 325) 32 = .ok (.iload_n 1, 1) := by decide +kernel
theorem d325_33 : decode (hs_code 325) 33 = .ok (.if_icmp .gt 36, 3) := by decide +kernel
theorem d325_36 : decode (hs_code 325) 36 = .ok (.iload 4, 2) := by decide +kernel
theorem d325_38 : decode (hs_code 325) 38 = .ok (.invokestatic 424, 3) := by decide +kernel
theorem d325_41 : decode (hs_code 325) 41 = .ok (.iload_n 3, 1) := by decide +kernel
theorem d325_42 : decode (hs_code 325) 42 = .ok (.invokestatic 424, 3) := by decide +kernel
theorem d325_45 : decode (hs_code 325) 45 = .ok (.if_icmp .lt 21, 3) := by decide +kernel
theorem d325_48 : decode (hs_code 325) 48 = .ok (.iload 4, 2) := by decide +kernel
theorem d325_50 : decode (hs_code 325) 50 = .ok (.invokestatic 424, 3) := by decide +kernel
theorem d325_53 : decode (hs_code 325) 53 = .ok (.iload_n 3, 1) := by decide +kernel
theorem d325_54 : decode (hs_code 325) 54 = .ok (.invokestatic 424, 3) := by decide +kernel
theorem d325_57 : decode (hs_code 325) 57 = .ok (.if_icmp .ne 12, 3) := by decide +kernel
theorem d325_60 : decode (hs_code 325) 60 = .ok (.iload 4, 2) := by decide +kernel
theorem d325_62 : decode (hs_code 325) 62 = .ok (.iload_n 3, 1) := by decide +kernel
theorem d325_63 : decode (hs_code 325) 63 = .ok (.if_icmp .ge 6, 3) := by decide +kernel
theorem d325_66 : decode (hs_code 325) 66 = .ok (.iload 4, 2) := by decide +kernel
theorem d325_68 : decode (hs_code 325) 68 = .ok (.istore_n 3, 1) := by decide +kernel
theorem d325_69 : decode (hs_code 325) 69 = .ok (.iinc 4 1, 3) := by decide +kernel
theorem d325_72 : decode (hs_code 325) 72 = .ok (.goto (-56), 3) := by decide +kernel
theorem d325_75 : decode (hs_code 325) 75 = .ok (.iload_n 3, 1) := by decide +kernel
theorem d325_76 : decode (hs_code 325) 76 = .ok (.ireturn, 1) := by decide +kernel
theorem d326_0 : decode (hs_code 326) 0 = .ok (.iconst 0, 1) := by decide +kernel
theorem d326_1 : decode (hs_code 326) 1 = .ok (.istore_n 2, 1) := by decide +kernel
theorem d326_2 : decode (hs_code 326) 2 = .ok (.iconst 0, 1) := by decide +kernel
theorem d326_3 : decode (hs_code 326) 3 = .ok (.istore_n 3, 1) := by decide +kernel
theorem d326_4 : decode (hs_code 326) 4 = .ok (.iload_n 3, 1) := by decide +kernel
theorem d326_5 : decode (hs_code 326) 5 = .ok (.aload_n 0, 1) := by decide +kernel
theorem d326_6 : decode (hs_code 326) 6 = .ok (.getfield 35, 3) := by decide +kernel
theorem d326_9 : decode (hs_code 326) 9 = .ok (.iconst 0, 1) := by decide +kernel
theorem d326_10 : decode (hs_code 326) 10 = .ok (.iaload, 1) := by decide +kernel
theorem d326_11 : decode (hs_code 326) 11 = .ok (.if_icmp .ge 33, 3) := by decide +kernel
theorem d326_14 : decode (hs_code 326) 14 = .ok (.iload_n 2, 1) := by decide +kernel
theorem d326_15 : decode (hs_code 326) 15 = .ok (.iload_n 1, 1) := by decide +kernel
theorem d326_16 : decode (hs_code 326) 16 = .ok (.iload_n 3, 1) := by decide +kernel
theorem d326_17 : decode (hs_code 326) 17 = .ok (.invokestatic 99, 3) := by decide +kernel
theorem d326_20 : decode (hs_code 326) 20 = .ok (.ifCond .eq 15, 3) := by decide +kernel
theorem d326_23 : decode (hs_code 326) 23 = .ok (.aload_n 0, 1) := by decide +kernel
theorem d326_24 : decode (hs_code 326) 24 = .ok (.getfield 35, 3) := by decide +kernel
theorem d326_27 : decode (hs_code 326) 27 = .ok (.bipush 10, 2) := by decide +kernel
theorem d326_29 : decode (hs_code 326) 29 = .ok (.iload_n 3, 1) := by decide +kernel
theorem d326_30 : decode (hs_code 326) 30 = .ok (.iadd, 1) := by decide +kernel
theorem d326_31 : decode (hs_code 326) 31 = .ok (.iaload, 1) := by decide +kernel
theorem d326_32 : decode (hs_code 326) 32 = .ok (.goto 4, 3) := by decide +kernel
theorem d326_35 : decode (hs_code 326) 35 = .ok (.iconst 0, 1) := by decide +kernel
theorem d326_36 : decode (hs_code 326) 36 = .ok (.iadd, 1) := by decide +kernel
theorem d326_37 : decode (hs_code 326) 37 = .ok (.istore_n 2, 1) := by decide +kernel
theorem d326_38 : decode (hs_code 326) 38 = .ok (.iinc 3 1, 3) := by decide +kernel
theorem d326_41 : decode (hs_code 326) 41 = .ok (.goto (-37), 3) := by decide +kernel
theorem d326_44 : decode (hs_code 326) 44 = .ok (.iload_n 2, 1) := by decide +kernel
theorem d326_45 : decode (hs_code 326) 45 = .ok (.ireturn, 1) := by decide +kernel
theorem d327_0 : decode (hs_code 327) 0 = .ok (.aload_n 0, 1) := by decide +kernel
theorem d327_1 : decode (hs_code 327) 1 = .ok (.iconst 0, 1) := by decide +kernel
theorem d327_2 : decode (hs_code 327) 2 = .ok (.putfield 60, 3) := by decide +kernel
theorem d327_5 : decode (hs_code 327) 5 = .ok (.aload_n 0, 1) := by decide +kernel
theorem d327_6 : decode (hs_code 327) 6 = .ok (.iconst 0, 1) := by decide +kernel
theorem d327_7 : decode (hs_code 327) 7 = .ok (.putfield 63, 3) := by decide +kernel
theorem d327_10 : decode (hs_code 327) 10 = .ok (.iload_n 1, 1) := by decide +kernel
theorem d327_11 : decode (hs_code 327) 11 = .ok (.i2l, 1) := by decide +kernel
theorem d327_12 : decode (hs_code 327) 12 = .ok (.lconst 0, 1) := by decide +kernel
theorem d327_13 : decode (hs_code 327) 13 = .ok (.ldc2_w 422, 3) := by decide +kernel
theorem d327_16 : decode (hs_code 327) 16 = .ok (.invokestatic 95, 3) := by decide +kernel
theorem d327_19 : decode (hs_code 327) 19 = .ok (.ifCond .eq 11, 3) := by decide +kernel
theorem d327_22 : decode (hs_code 327) 22 = .ok (.aload_n 0, 1) := by decide +kernel
theorem d327_23 : decode (hs_code 327) 23 = .ok (.iload_n 1, 1) := by decide +kernel
theorem d327_24 : decode (hs_code 327) 24 = .ok (.invokevirtual 430, 3) := by decide +kernel
theorem d327_27 : decode (hs_code 327) 27 = .ok (.goto 8, 3) := by decide +kernel
theorem d327_30 : decode (hs_code 327) 30 = .ok (.aload_n 0, 1) := by decide +kernel
theorem d327_31 : decode (hs_code 327) 31 = .ok (.iconst 5, 1) := by decide +kernel
theorem d327_32 : decode (hs_code 327) 32 = .ok (.invokevirtual 322, 3) := by decide +kernel
theorem d327_35 : decode (hs_code 327) 35 = .ok (.ireturn, 1) := by decide +kernel
theorem d328_0 : decode (hs_code 328) 0 = .ok (.aload_n 0, 1) := by decide +kernel
theorem d328_1 : decode (hs_code 328) 1 = .ok (.iconst 0, 1) := by decide +kernel
theorem d328_2 : decode (hs_code 328) 2 = .ok (.putfield 60, 3) := by decide +kernel
theorem d328_5 : decode (hs_code 328) 5 = .ok (.aload_n 0, 1) := by decide +kernel
theorem d328_6 : decode (hs_code 328) 6 = .ok (.iconst 0, 1) := by decide +kernel
theorem d328_7 : decode (hs_code 328) 7 = .ok (.putfield 63, 3) := by decide +kernel
theorem d328_10 : decode (hs_code 328) 10 = .ok (.aload_n 0, 1) := by decide +kernel
theorem d328_11 : decode (hs_code 328) 11 = .ok (.invokevirtual 436, 3) := by decide +kernel
theorem d328_14 : decode (hs_code 328) 14 = .ok (.ireturn, 1) := by decide +kernel
theorem d329_0 : decode (hs_code 329) 0 = .ok (.iconst 0, 1) := by decide +kernel
theorem d329_1 : decode (hs_code 329) 1 = .ok (.istore_n 1, 1) := by decide +kernel
theorem d329_2 : decode (hs_code 329) 2 = .ok (.iconst 1, 1) := by decide +kernel
theorem d329_3 : decode (hs_code 329) 3 = .ok (.istore_n 2, 1) := by decide +kernel
theorem d329_4 : decode (hs_code 329) 4 = .ok (.iload_n 2, 1) := by decide +kernel
theorem d329_5 : decode (hs_code 329) 5 = .ok (.iconst 1, 1) := by decide +kernel
theorem d329_6 : decode (hs_code 329) 6 = .ok (.aload_n 0, 1) := by decide +kernel
theorem d329_7 : decode (hs_code 329) 7 = .ok (.getfield 35, 3) := by decide +kernel
theorem d329_10 : decode (hs_code 329) 10 = .ok (.iconst 0, 1) := by decide +kernel
theorem d329_11 : decode (hs_code 329) 11 = .ok (.iaload, 1) := by decide +kernel
theorem d329_12 : decode (hs_code 329) 12 = .ok (.ishl, 1) := by decide +kernel
theorem d329_13 : decode (hs_code 329) 13 = .ok (.if_icmp .ge 24, 3) := by decide +kernel
theorem d329_16 : decode (hs_code 329) 16 = .ok (.aload_n 0, 1) := by decide +kernel
theorem d329_17 : decode (hs_code 329) 17 = .ok (.iload_n 2, 1) := by decide +kernel
theorem d329_18 : decode (hs_code 329) 18 = .ok (.invokevirtual 433, 3) := by decide +kernel
theorem d329_21 : decode (hs_code 329) 21 = .ok (.aload_n 0, 1) := by decide +kernel
theorem d329_22 : decode (hs_code 329) 22 = .ok (.iload_n 1, 1) := by decide +kernel
theorem d329_23 : decode (hs_code 329) 23 = .ok (.invokevirtual 433, 3) := by decide +kernel
theorem d329_26 : decode (hs_code 329) 26 = .ok (.if_icmp .ge 5, 3) := by decide +kernel
theorem d329_29 : decode (hs_code 329) 29 = .ok (.iload_n 2, 1) := by decide +kernel
theorem d329_30 : decode (hs_code 329) 30 = .ok (.istore_n 1, 1) := by decide +kernel
theorem d329_31 : decode (hs_code 329) 31 = .ok (.iinc 2 1, 3) := by decide +kernel
theorem d329_34 : decode (hs_code 329) 34 = .ok (.goto (-30), 3) := by decide +kernel
theorem d329_37 : decode (hs_code 329) 37 = .ok (.iload_n 1, 1) := by decide +kernel
theorem d329_38 : decode (hs_code 329) 38 = .ok (.ireturn, 1) := by decide +kernel
theorem d330_0 : decode (hs_code 330) 0 = .ok (.iconst 2, 1) := by decide +kernel
theorem d330_1 : decode (hs_code 330) 1 = .ok (.aload_n 0, 1) := by decide +kernel
theorem d330_2 : decode (hs_code 330) 2 = .ok (.iload_n 1, 1) := by decide +kernel
theorem d330_3 : decode (hs_code 330) 3 = .ok (.invokevirtual 427, 3) := by decide +kernel
theorem d330_6 : decode (hs_code 330) 6 = .ok (.imul, 1) := by decide +kernel
theorem d330_7 : decode (hs_code 330) 7 = .ok (.aload_n 0, 1) := by decide +kernel
theorem d330_8 : decode (hs_code 330) 8 = .ok (.iconst 0, 1) := by decide +kernel
theorem d330_9 : decode (hs_code 330) 9 = .ok (.aload_n 0, 1) := by decide +kernel
theorem d330_10 : decode (hs_code 330) 10 = .ok (.getfield 35, 3) := by decide +kernel
theorem d330_13 : decode (hs_code 330) 13 = .ok (.iconst 0, 1) := by decide +kernel
theorem d330_14 : decode (hs_code 330) 14 = .ok (.iaload, 1) := by decide +kernel
theorem d330_15 : decode (hs_code 330) 15 = .ok (.invokevirtual 334, 3) := by decide +kernel
theorem d330_18 : decode (hs_code 330) 18 = .ok (.isub, 1) := by decide +kernel
theorem d330_19 : decode (hs_code 330) 19 = .ok (.invokestatic 373, 3) := by decide +kernel
theorem d330_22 : decode (hs_code 330) 22 = .ok (.ireturn, 1) := by decide +kernel
theorem d331_0 : decode (hs_code 331) 0 = .ok (.aload_n 0, 1) := by decide +kernel
theorem d331_1 : decode (hs_code 331) 1 = .ok (.iconst 0, 1) := by decide +kernel
theorem d331_2 : decode (hs_code 331) 2 = .ok (.putfield 60, 3) := by decide +kernel
theorem d331_5 : decode (hs_code 331) 5 = .ok (.aload_n 0, 1) := by decide +kernel
theorem d331_6 : decode (hs_code 331) 6 = .ok (.iconst 0, 1) := by decide +kernel
theorem d331_7 : decode (hs_code 331) 7 = .ok (.putfield 63, 3) := by decide +kernel
theorem d331_10 : decode (hs_code 331) 10 = .ok (.aload_n 0, 1) := by decide +kernel
theorem d331_11 : decode (hs_code 331) 11 = .ok (.aload_n 0, 1) := by decide +kernel
theorem d331_12 : decode (hs_code 331) 12 = .ok (.invokevirtual 436, 3) := by decide +kernel
theorem d331_15 : decode (hs_code 331) 15 = .ok (.invokevirtual 433, 3) := by decide +kernel
theorem d331_18 : decode (hs_code 331) 18 = .ok (.ireturn, 1) := by decide +kernel
theorem d332_0 : decode (hs_code 332) 0 = .ok (.aload_n 0, 1) := by decide +kernel
theorem d332_1 : decode (hs_code 332) 1 = .ok (.iconst 0, 1) := by decide +kernel
theorem d332_2 : decode (hs_code 332) 2 = .ok (.putfield 60, 3) := by decide +kernel
theorem d332_5 : decode (hs_code 332) 5 = .ok (.aload_n 0, 1) := by decide +kernel
theorem d332_6 : decode (hs_code 332) 6 = .ok (.iconst 0, 1) := by decide +kernel
theorem d332_7 : decode (hs_code 332) 7 = .ok (.putfield 63, 3) := by decide +kernel
theorem d332_10 : decode (hs_code 332) 10 = .ok (.aload_n 0, 1) := by decide +kernel
theorem d332_11 : decode (hs_code 332) 11 = .ok (.iload_n 1, 1) := by decide +kernel
theorem d332_12 : decode (hs_code 332) 12 = .ok (.invokevirtual 352, 3) := by decide +kernel
theorem d332_15 : decode (hs_code 332) 15 = .ok (.ifCond .ne 9, 3) := by decide +kernel
theorem d332_18 : decode (hs_code 332) 18 = .ok (.aload_n 0, 1) := by decide +kernel
theorem d332_19 : decode (hs_code 332) 19 = .ok (.iconst 1, 1) := by decide +kernel
theorem d332_20 : decode (hs_code 332) 20 = .ok (.invokevirtual 322, 3) := by decide +kernel
theorem d332_23 : decode (hs_code 332) 23 = .ok (.ireturn, 1) := by decide +kernel
theorem d332_24 : decode (hs_code 332) 24 = .ok (.aload_n 0, 1) := by decide +kernel
theorem d332_25 : decode (hs_code 332) 25 = .ok (.getfield 17, 3) := by decide +kernel
theorem d332_28 : decode (hs_code 332) 28 = .ok (.iload_n 1, 1) := by decide +kernel
theorem d332_29 : decode (hs_code 332) 29 = .ok (.iaload, 1) := by decide +kernel
theorem d332_30 : decode (hs_code 332) 30 = .ok (.ifCond .ge 9, 3) := by decide +kernel
theorem d332_33 : decode (hs_code 332) 33 = .ok (.aload_n 0, 1) := by decide +kernel
theorem d332_34 : decode (hs_code 332) 34 = .ok (.iconst 3, 1) := by decide +kernel
theorem d332_35 : decode (hs_code 332) 35 = .ok (.invokevirtual 322, 3) := by decide +kernel
theorem d332_38 : decode (hs_code 332) 38 = .ok (.ireturn, 1) := by decide +kernel
theorem d332_39 : decode (hs_code 332) 39 = .ok (.aload_n 0, 1) := by decide +kernel
theorem d332_40 : decode (hs_code 332) 40 = .ok (.getfield 17, 3) := by decide +kernel
theorem d332_43 : decode (hs_code 332) 43 = .ok (.iload_n 1, 1) := by decide +kernel
theorem d332_44 : decode (hs_code 332) 44 = .ok (.iaload, 1) := by decide +kernel
theorem d332_45 : decode (hs_code 332) 45 = .ok (.i2l, 1) := by decide +kernel
theorem d332_46 : decode (hs_code 332) 46 = .ok (.ldc2_w 381, 3) := by decide +kernel
theorem d332_49 : decode (hs_code 332) 49 = .ok (.iload_n 2, 1) := by decide +kernel
theorem d332_50 : decode (hs_code 332) 50 = .ok (.i2l, 1) := by decide +kernel
theorem d332_51 : decode (hs_code 332) 51 = .ok (.lmul, 1) := by decide +kernel
theorem d332_52 : decode (hs_code 332) 52 = .ok (.lcmp, 1) := by decide +kernel
theorem d332_53 : decode (hs_code 332) 53 = .ok (.ifCond .ge 9, 3) := by decide +kernel
theorem d332_56 : decode (hs_code 332) 56 = .ok (.aload_n 0, 1) := by decide +kernel
theorem d332_57 : decode (hs_code 332) 57 = .ok (.iconst 4, 1) := by decide +kernel
theorem d332_58 : decode (hs_code 332) 58 = .ok (.invokevirtual 322, 3) := by decide +kernel
theorem d332_61 : decode (hs_code 332) 61 = .ok (.ireturn, 1) := by decide +kernel
theorem d332_62 : decode (hs_code 332) 62 = .ok (.iload_n 2, 1) := by decide +kernel
theorem d332_63 : decode (hs_code 332) 63 = .ok (.i2l, 1) := by decide +kernel
theorem d332_64 : decode (hs_code 332) 64 = .ok (.lconst 0, 1) := by decide +kernel
theorem d332_65 : decode (hs_code 332) 65 = .ok (.ldc2_w 439, 3) := by decide +kernel
theorem d332_68 : decode (hs_code 332) 68 = .ok (.invokestatic 95, 3) := by decide +kernel
theorem d332_71 : decode (hs_code 332) 71 = .ok (.ifCond .ne 9, 3) := by decide +kernel
theorem d332_74 : decode (hs_code 332) 74 = .ok (.aload_n 0, 1) := by decide +kernel
theorem d332_75 : decode (hs_code 332) 75 = .ok (.iconst 5, 1) := by decide +kernel
theorem d332_76 : decode (hs_code 332) 76 = .ok (.invokevirtual 322, 3) := by decide +kernel
theorem d332_79 : decode (hs_code 332) 79 = .ok (.ireturn, 1) := by decide +kernel
theorem d332_80 : decode (hs_code 332) 80 = .ok (.iconst 0, 1) := by decide +kernel
theorem d332_81 : decode (hs_code 332) 81 = .ok (.istore_n 3, 1) := by decide +kernel
theorem d332_82 : decode (hs_code 332) 82 = .ok (.iload_n 3, 1) := by decide +kernel
theorem d332_83 : decode (hs_code 332) 83 = .ok (.iconst 2, 1) := by decide +kernel
theorem d332_84 : decode (hs_code 332) 84 = .ok (.iload_n 2, 1) := by decide +kernel
theorem d332_85 : decode (hs_code 332) 85 = .ok (.imul, 1) := by decide +kernel
theorem d332_86 : decode (hs_code 332) 86 = .ok (.if_icmp .ge 43, 3) := by decide +kernel
theorem d332_89 : decode (hs_code 332) 89 = .ok (.aload_n 0, 1) := by decide +kernel
theorem d332_90 : decode (hs_code 332) 90 = .ok (.iload_n 1, 1) := by decide +kernel
theorem d332_91 : decode (hs_code 332) 91 = .ok (.iload_n 3, 1) := by decide +kernel
theorem d332_92 : decode (hs_code 332) 92 = .ok (.invokevirtual 441, 3) := by decide +kernel
theorem d332_95 : decode (hs_code 332) 95 = .ok (.lconst 0, 1) := by decide +kernel
theorem d332_96 : decode (hs_code 332) 96 = .ok (.iload_n 3, 1) := by decide +kernel
theorem d332_97 : decode (hs_code 332) 97 = .ok (.iconst 2, 1) := by decide +kernel
theorem d332_98 : decode (hs_code 332) 98 = .ok (.irem, 1) := by decide +kernel
theorem d332_99 : decode (hs_code 332) 99 = .ok (.ifCond .ne 9, 3) := by decide +kernel
theorem d332_102 : decode (hs_code 332) 102 = .ok (.ldc2_w 397, 3) := by decide +kernel
theorem d332_105 : decode (hs_code 332) 105 = .ok (.goto 6, 3) := by decide +kernel
theorem d332_108 : decode (hs_code 332) 108 = .ok (.ldc2_w 359, 3) := by decide +kernel
theorem d332_111 : decode (hs_code 332) 111 = .ok (.invokestatic 95, 3) := by decide +kernel
theorem d332_114 : decode (hs_code 332) 114 = .ok (.ifCond .ne 9, 3) := by decide +kernel
theorem d332_117 : decode (hs_code 332) 117 = .ok (.aload_n 0, 1) := by decide +kernel
theorem d332_118 : decode (hs_code 332) 118 = .ok (.iconst 5, 1) := by decide +kernel
theorem d332_119 : decode (hs_code 332) 119 = .ok (.invokevirtual 322, 3) := by decide +kernel
theorem d332_122 : decode (hs_code 332) 122 = .ok (.ireturn, 1) := by decide +kernel
theorem d332_123 : decode (hs_code 332) 123 = .ok (.iinc 3 1, 3) := by decide +kernel
theorem d332_126 : decode (hs_code 332) 126 = .ok (.goto (-44), 3) := by decide +kernel
theorem d332_129 : decode (hs_code 332) 129 = .ok (.iconst 1, 1) := by decide +kernel
theorem d332_130 : decode (hs_code 332) 130 = .ok (.aload_n 0, 1) := by decide +kernel
theorem d332_131 : decode (hs_code 332) 131 = .ok (.getfield 35, 3) := by decide +kernel
theorem d332_134 : decode (hs_code 332) 134 = .ok (.iconst 0, 1) := by decide +kernel
theorem d332_135 : decode (hs_code 332) 135 = .ok (.iaload, 1) := by decide +kernel
theorem d332_136 : decode (hs_code 332) 136 = .ok (.ishl, 1) := by decide +kernel
theorem d332_137 : decode (hs_code 332) 137 = .ok (.iconst 1, 1) := by decide +kernel
theorem d332_138 : decode (hs_code 332) 138 = .ok (.isub, 1) := by decide +kernel
theorem d332_139 : decode (hs_code 332) 139 = .ok (.istore_n 3, 1) := by decide +kernel
theorem d332_140 : decode (hs_code 332) 140 = .ok (.aload_n 0, 1) := by decide +kernel
theorem d332_141 : decode (hs_code 332) 141 = .ok (.invokevirtual 399, 3) := by decide +kernel
theorem d332_144 : decode (hs_code 332) 144 = .ok (.iconst 0, 1) := by decide +kernel
theorem d332_145 : decode (hs_code 332) 145 = .ok (.istore 4, 2) := by decide +kernel
theorem d332_147 : decode (hs_code 332) 147 = .ok (.iload 4, 2) := by decide +kernel
theorem d332_149 : decode (hs_code 332) 149 = .ok (.sipush 200, 3) := by decide +kernel
theorem d332_152 : decode (hs_code 332) 152 = .ok (.if_icmp .gt 67, 3) := by decide +kernel
theorem d332_155 : decode (hs_code 332) 155 = .ok (.iload_n 2, 1) := by decide +kernel
theorem d332_156 : decode (hs_code 332) 156 = .ok (.ifCond .le 63, 3) := by decide +kernel
theorem d332_159 : decode (hs_code 332) 159 = .ok (.iconst 0, 1) := by decide +kernel
theorem d332_160 : decode (hs_code 332) 160 = .ok (.istore 5, 2) := by decide +kernel
theorem d332_162 : decode (hs_code 332) 162 = .ok (.iload 5, 2) := by decide +kernel
theorem d332_164 : decode (hs_code 332) 164 = .ok (.iload_n 2, 1) := by decide +kernel
theorem d332_165 : decode (hs_code 332) 165 = .ok (.if_icmp .ge 44, 3) := by decide +kernel
theorem d332_168 : decode (hs_code 332) 168 = .ok (.aload_n 0, 1) := by decide +kernel
theorem d332_169 : decode (hs_code 332) 169 = .ok (.iload_n 1, 1) := by decide +kernel
theorem d332_170 : decode (hs_code 332) 170 = .ok (.iconst 2, 1) := by decide +kernel
theorem d332_171 : decode (hs_code 332) 171 = .ok (.iload 5, 2) := by decide +kernel
theorem d332_173 : decode (hs_code 332) 173 = .ok (.imul, 1) := by decide +kernel
theorem d332_174 : decode (hs_code 332) 174 = .ok (.invokevirtual 441, 3) := by decide +kernel
theorem d332_177 : decode (hs_code 332) 177 = .ok (.iload 4, 2) := by decide +kernel
theorem d332_179 : decode (hs_code 332) 179 = .ok (.i2l, 1) := by decide +kernel
theorem d332_180 : decode (hs_code 332) 180 = .ok (.lcmp, 1) := by decide +kernel
theorem d332_181 : decode (hs_code 332) 181 = .ok (.ifCond .ne 22, 3) := by decide +kernel
theorem d332_184 : decode (hs_code 332) 184 = .ok (.iload_n 3, 1) := by decide +kernel
theorem d332_185 : decode (hs_code 332) 185 = .ok (.aload_n 0, 1) := by decide +kernel
theorem d332_186 : decode (hs_code 332) 186 = .ok (.aload_n 0, 1) := by decide +kernel
theorem d332_187 : decode (hs_code 332) 187 = .ok (.iload_n 1, 1) := by decide +kernel
theorem d332_188 : decode (hs_code 332) 188 = .ok (.iconst 2, 1) := by decide +kernel
theorem d332_189 : decode (hs_code 332) 189 = .ok (.iload 5, 2) := by decide +kernel
theorem d332_191 : decode (hs_code 332) 191 = .ok (.imul, 1) := by decide +kernel
theorem d332_192 : decode (hs_code 332) 192 = .ok (.iconst 1, 1) := by decide +kernel
theorem d332_193 : decode (hs_code 332) 193 = .ok (.iadd, 1) := by decide +kernel
theorem d332_194 : decode (hs_code 332) 194 = .ok (.invokevirtual 441, 3) := by decide +kernel
theorem d332_197 : decode (hs_code 332) 197 = .ok (.l2i, 1) := by decide +kernel
theorem d332_198 : decode (hs_code 332) 198 = .ok (.invokevirtual 445, 3) := by decide +kernel
theorem d332_201 : decode (hs_code 332) 201 = .ok (.iand, 1) := by decide +kernel
theorem d332_202 : decode (hs_code 332) 202 = .ok (.istore_n 3, 1) := by decide +kernel
theorem d332_203 : decode (hs_code 332) 203 = .ok (.iinc 5 1, 3) := by decide +kernel
theorem d332_206 : decode (hs_code 332) 206 = .ok (.goto (-44), 3) := by decide +kernel
theorem d332_209 : decode (hs_code 332) 209 = .ok (.aload_n 0, 1) := by decide +kernel
theorem d332_210 : decode (hs_code 332) 210 = .ok (.invokevirtual 361, 3) := by decide +kernel
theorem d332_213 : decode (hs_code 332) 213 = .ok (.iinc 4 1, 3) := by decide +kernel
theorem d332_216 : decode (hs_code 332) 216 = .ok (.goto (-69), 3) := by decide +kernel
theorem d332_219 : decode (hs_code 332) 219 = .ok (.aload_n 0, 1) := by decide +kernel
theorem d332_220 : decode (hs_code 332) 220 = .ok (.invokevirtual 402, 3) := by decide +kernel
theorem d332_223 : decode (hs_code 332) 223 = .ok (.iload_n 3, 1) := by decide +kernel
theorem d332_224 : decode (hs_code 332) 224 = .ok (.ireturn, 1) := by decide +kernel
theorem d333_0 : decode (hs_code 333) 0 = .ok (.aload_n 0, 1) := by decide +kernel
theorem d333_1 : decode (hs_code 333) 1 = .ok (.getfield 20, 3) := by decide +kernel
theorem d333_4 : decode (hs_code 333) 4 = .ok (.bipush 60, 2) := by decide +kernel
theorem d333_6 : decode (hs_code 333) 6 = .ok (.iload_n 1, 1) := by decide +kernel
theorem d333_7 : decode (hs_code 333) 7 = .ok (.imul, 1) := by decide +kernel
theorem d333_8 : decode (hs_code 333) 8 = .ok (.iload_n 2, 1) := by decide +kernel
theorem d333_9 : decode (hs_code 333) 9 = .ok (.iadd, 1) := by decide +kernel
theorem d333_10 : decode (hs_code 333) 10 = .ok (.laload, 1) := by decide +kernel
theorem d333_11 : decode (hs_code 333) 11 = .ok (.lreturn, 1) := by decide +kernel
theorem d334_0 : decode (hs_code 334) 0 = .ok (.iconst 0, 1) := by decide +kernel
theorem d334_1 : decode (hs_code 334) 1 = .ok (.istore_n 2, 1) := by decide +kernel
theorem d334_2 : decode (hs_code 334) 2 = .ok (.iconst 0, 1) := by decide +kernel
theorem d334_3 : decode (hs_code 334) 3 = .ok (.istore_n 3, 1) := by decide +kernel
theorem d334_4 : decode (hs_code 334) 4 = .ok (.iload_n 3, 1) := by decide +kernel
theorem d334_5 : decode (hs_code 334) 5 = .ok (.aload_n 0, 1) := by decide +kernel
theorem d334_6 : decode (hs_code 334) 6 = .ok (.getfield 35, 3) := by decide +kernel
theorem d334_9 : decode (hs_code 334) 9 = .ok (.iconst 0, 1) := by decide +kernel
theorem d334_10 : decode (hs_code 334) 10 = .ok (.iaload, 1) := by decide +kernel
theorem d334_11 : decode (hs_code 334) 11 = .ok (.if_icmp .ge 32, 3) := by decide +kernel
theorem d334_14 : decode (hs_code 334) 14 = .ok (.iload_n 2, 1) := by decide +kernel
theorem d334_15 : decode (hs_code 334) 15 = .ok (.aload_n 0, 1) := by decide +kernel
theorem d334_16 : decode (hs_code 334) 16 = .ok (.getfield 35, 3) := by decide +kernel
theorem d334_19 : decode (hs_code 334) 19 = .ok (.bipush 10, 2) := by decide +kernel
theorem d334_21 : decode (hs_code 334) 21 = .ok (.iload_n 3, 1) := by decide +kernel
theorem d334_22 : decode (hs_code 334) 22 = .ok (.iadd, 1) := by decide +kernel
theorem d334_23 : decode (hs_code 334) 23 = .ok (.iaload, 1) := by decide +kernel
theorem d334_24 : decode (hs_code 334) 24 = .ok (.iload_n 1, 1) := by decide +kernel
theorem d334_25 : decode (hs_code 334) 25 = .ok (.if_icmp .ne 9, 3) := by decide +kernel
theorem d334_28 : decode (hs_code 334) 28 = .ok (.iconst 1, 1) := by decide +kernel
theorem d334_29 : decode (hs_code 334) 29 = .ok (.iload_n 3, 1) := by decide +kernel
theorem d334_30 : decode (hs_code 334) 30 = .ok (.ishl, 1) := by decide +kernel
theorem d334_31 : decode (hs_code 334) 31 = .ok (.goto 4, 3) := by decide +kernel
theorem d334_34 : decode (hs_code 334) 34 = .ok (.iconst 0, 1) := by decide +kernel
theorem d334_35 : decode (hs_code 334) 35 = .ok (.ior, 1) := by decide +kernel
theorem d334_36 : decode (hs_code 334) 36 = .ok (.istore_n 2, 1) := by decide +kernel
theorem d334_37 : decode (hs_code 334) 37 = .ok (.iinc 3 1, 3) := by decide +kernel
theorem d334_40 : decode (hs_code 334) 40 = .ok (.goto (-36), 3) := by decide +kernel
theorem d334_43 : decode (hs_code 334) 43 = .ok (.iload_n 2, 1) := by decide +kernel
theorem d334_44 : decode (hs_code 334) 44 = .ok (.ireturn, 1) := by decide +kernel
theorem d335_0 : decode (hs_code 335) 0 = .ok (.aload_n 0, 1) := by decide +kernel
theorem d335_1 : decode (hs_code 335) 1 = .ok (.iconst 0, 1) := by decide +kernel
theorem d335_2 : decode (hs_code 335) 2 = .ok (.putfield 60, 3) := by decide +kernel
theorem d335_5 : decode (hs_code 335) 5 = .ok (.aload_n 0, 1) := by decide +kernel
theorem d335_6 : decode (hs_code 335) 6 = .ok (.iconst 0, 1) := by decide +kernel
theorem d335_7 : decode (hs_code 335) 7 = .ok (.putfield 63, 3) := by decide +kernel
theorem d335_10 : decode (hs_code 335) 10 = .ok (.aload_n 0, 1) := by decide +kernel
theorem d335_11 : decode (hs_code 335) 11 = .ok (.invokevirtual 448, 3) := by decide +kernel
theorem d335_14 : decode (hs_code 335) 14 = .ok (.istore_n 1, 1) := by decide +kernel
theorem d335_15 : decode (hs_code 335) 15 = .ok (.iload_n 1, 1) := by decide +kernel
theorem d335_16 : decode (hs_code 335) 16 = .ok (.ifCond .ge 12, 3) := by decide +kernel
theorem d335_19 : decode (hs_code 335) 19 = .ok (.aload_n 0, 1) := by decide +kernel
theorem d335_20 : decode (hs_code 335) 20 = .ok (.bipush 8, 2) := by decide +kernel
theorem d335_22 : decode (hs_code 335) 22 = .ok (.invokevirtual 322, 3) := by decide +kernel
theorem d335_25 : decode (hs_code 335) 25 = .ok (.goto 7, 3) := by decide +kernel
theorem d335_28 : decode (hs_code 335) 28 = .ok (.iload_n 1, 1) := by decide +kernel
theorem d335_29 : decode (hs_code 335) 29 = .ok (.invokestatic 424, 3) := by decide +kernel
theorem d335_32 : decode (hs_code 335) 32 = .ok (.ireturn, 1) := by decide +kernel
theorem d336_0 : decode (hs_code 336) 0 = .ok (.iconst 1, 1) := by decide +kernel
theorem d336_1 : decode (hs_code 336) 1 = .ok (.aload_n 0, 1) := by decide +kernel
theorem d336_2 : decode (hs_code 336) 2 = .ok (.getfield 35, 3) := by decide +kernel
theorem d336_5 : decode (hs_code 336) 5 = .ok (.iconst 4, 1) := by decide +kernel
theorem d336_6 : decode (hs_code 336) 6 = .ok (.iaload, 1) := by decide +kernel
theorem d336_7 : decode (hs_code 336) 7 = .ok (.ishl, 1) := by decide +kernel
theorem d336_8 : decode (hs_code 336) 8 = .ok (.iconst 1, 1) := by decide +kernel
theorem d336_9 : decode (hs_code 336) 9 = .ok (.isub, 1) := by decide +kernel
theorem d336_10 : decode (hs_code 336) 10 = .ok (.istore_n 1, 1) := by decide +kernel
theorem d336_11 : decode (hs_code 336) 11 = .ok (.iconst (-1), 1) := by decide +kernel
theorem d336_12 : decode (hs_code 336) 12 = .ok (.istore_n 2, 1) := by decide +kernel
theorem d336_13 : decode (hs_code 336) 13 = .ok (.iconst 0, 1) := by decide +kernel
theorem d336_14 : decode (hs_code 336) 14 = .ok (.istore_n 3, 1) := by decide +kernel
theorem d336_15 : decode (hs_code 336) 15 = .ok (.iload_n 3, 1) := by decide +kernel
theorem d336_16 : decode (hs_code 336) 16 = .ok (.iconst 1, 1) := by decide +kernel
theorem d336_17 : decode (hs_code 336) 17 = .ok (.aload_n 0, 1) := by decide +kernel
theorem d336_18 : decode (hs_code 336) 18 = .ok (.getfield 35, 3) := by decide +kernel
theorem d336_21 : decode (hs_code 336) 21 = .ok (.iconst 5, 1) := by decide +kernel
theorem d336_22 : decode (hs_code 336) 22 = .ok (.iaload, 1) := by decide +kernel
theorem d336_23 : decode (hs_code 336) 23 = .ok (.ishl, 1) := by decide +kernel
theorem d336_24 : decode (hs_code 336) 24 = .ok (.if_icmp .ge 98, 3) := by decide +kernel
theorem d336_27 : decode (hs_code 336) 27 = .ok (.iconst 0, 1) := by decide +kernel
theorem d336_28 : decode (hs_code 336) 28 = .ok (.istore 4, 2) := by decide +kernel
theorem d336_30 : decode (hs_code 336) 30 = .ok (.iconst 0, 1) := by decide +kernel
theorem d336_31 : decode (hs_code 336) 31 = .ok (.istore 5, 2) := by decide +kernel
theorem d336_33 : decode (hs_code 336) 33 = .ok (.iload 5, 2) := by decide +kernel
theorem d336_35 : decode (hs_code 336) 35 = .ok (.aload_n 0, 1) := by decide +kernel
theorem d336_36 : decode (hs_code 336) 36 = .ok (.getfield 35, 3) := by decide +kernel
theorem d336_39 : decode (hs_code 336) 39 = .ok (.iconst 5, 1) := by decide +kernel
theorem d336_40 : decode (hs_code 336) 40 = .ok (.iaload, 1) := by decide +kernel
theorem d336_41 : decode (hs_code 336) 41 = .ok (.if_icmp .ge 52, 3) := by decide +kernel
theorem d336_44 : decode (hs_code 336) 44 = .ok (.iload 4, 2) := by decide +kernel
theorem d336_46 : decode (hs_code 336) 46 = .ok (.iload_n 3, 1) := by decide +kernel
theorem d336_47 : decode (hs_code 336) 47 = .ok (.iload 5, 2) := by decide +kernel
theorem d336_49 : decode (hs_code 336) 49 = .ok (.invokestatic 99, 3) := by decide +kernel
theorem d336_52 : decode (hs_code 336) 52 = .ok (.ifCond .eq 31, 3) := by decide +kernel
theorem d336_55 : decode (hs_code 336) 55 = .ok (.iconst 1, 1) := by decide +kernel
theorem d336_56 : decode (hs_code 336) 56 = .ok (.aload_n 0, 1) := by decide +kernel
theorem d336_57 : decode (hs_code 336) 57 = .ok (.getfield 35, 3) := by decide +kernel
theorem d336_60 : decode (hs_code 336) 60 = .ok (.bipush 107, 2) := by decide +kernel
theorem d336_62 : decode (hs_code 336) 62 = .ok (.iload 5, 2) := by decide +kernel
theorem d336_64 : decode (hs_code 336) 64 = .ok (.iadd, 1) := by decide +kernel
theorem d336_65 : decode (hs_code 336) 65 = .ok (.iaload, 1) := by decide +kernel
theorem d336_66 : decode (hs_code 336) 66 = .ok (.ishl, 1) := by decide +kernel
theorem d336_67 : decode (hs_code 336) 67 = .ok (.iconst 1, 1) := by decide +kernel
theorem d336_68 : decode (hs_code 336) 68 = .ok (.aload_n 0, 1) := by decide +kernel
theorem d336_69 : decode (hs_code 336) 69 = .ok (.getfield 35, 3) := by decide +kernel
theorem d336_72 : decode (hs_code 336) 72 = .ok (.bipush 117, 2) := by decide +kernel
theorem d336_74 : decode (hs_code 336) 74 = .ok (.iload 5, 2) := by decide +kernel
theorem d336_76 : decode (hs_code 336) 76 = .ok (.iadd, 1) := by decide +kernel
theorem d336_77 : decode (hs_code 336) 77 = .ok (.iaload, 1) := by decide +kernel
theorem d336_78 : decode (hs_code 336) 78 = .ok (.ishl, 1) := by decide +kernel
theorem d336_79 : decode (hs_code 336) 79 = .ok (.ior, 1) := by decide +kernel
theorem d336_80 : decode (hs_code 336) 80 = .ok (.goto 4, 3) := by decide +kernel
theorem d336_83 : decode (hs_code 336) 83 = .ok (.iconst 0, 1) := by decide +kernel
theorem d336_84 : decode (hs_code 336) 84 = .ok (.ior, 1) := by decide +kernel
theorem d336_85 : decode (hs_code 336) 85 = .ok (.istore 4, 2) := by decide +kernel
theorem d336_87 : decode (hs_code 336) 87 = .ok (.iinc 5 1, 3) := by decide +kernel
theorem d336_90 : decode (hs_code 336) 90 = .ok (.goto (-57), 3) := by decide +kernel
theorem d336_93 : decode (hs_code 336) 93 = .ok (.iload 4, 2) := by decide +kernel
theorem d336_95 : decode (hs_code 336) 95 = .ok (.iload_n 1, 1) := by decide +kernel
theorem d336_96 : decode (hs_code 336) 96 = .ok (.if_icmp .ne 20, 3) := by decide +kernel
theorem d336_99 : decode (hs_code 336) 99 = .ok (.iload_n 2, 1) := by decide +kernel
theorem d336_100 : decode (hs_code 336) 100 = .ok (.ifCond .lt 14, 3) := by decide +kernel
theorem d336_103 : decode (hs_code 336) 103 = .ok (.iload_n 3, 1) := by decide +kernel
theorem d336_104 : decode (hs_code 336) 104 = .ok (.invokestatic 424, 3) := by decide +kernel
theorem d336_107 : decode (hs_code 336) 107 = .ok (.iload_n 2, 1) := by decide +kernel
theorem d336_108 : decode (hs_code 336) 108 = .ok (.invokestatic 424, 3) := by decide +kernel
theorem d336_111 : decode (hs_code 336) 111 = .ok (.if_icmp .ge 5, 3) := by decide +kernel
theorem d336_114 : decode (hs_code 336) 114 = .ok (.iload_n 3, 1) := by decide +kernel
theorem d336_115 : decode (hs_code 336) 115 = .ok (.istore_n 2, 1) := by decide +kernel
theorem d336_116 : decode (hs_code 336) 116 = .ok (.iinc 3 1, 3) := by decide +kernel
theorem d336_119 : decode (hs_code 336) 119 = .ok (.goto (-104), 3) := by decide +kernel
theorem d336_122 : decode (hs_code 336) 122 = .ok (.iload_n 2, 1) := by decide +kernel
theorem d336_123 : decode (hs_code 336) 123 = .ok (.ireturn, 1) := by decide +kernel
theorem d337_0 : decode (hs_code 337) 0 = .ok (.aload_n 0, 1) := by decide +kernel
theorem d337_1 : decode (hs_code 337) 1 = .ok (.iconst 0, 1) := by decide +kernel
theorem d337_2 : decode (hs_code 337) 2 = .ok (.putfield 60, 3) := by decide +kernel
theorem d337_5 : decode (hs_code 337) 5 = .ok (.aload_n 0, 1) := by decide +kernel
theorem d337_6 : decode (hs_code 337) 6 = .ok (.iconst 0, 1) := by decide +kernel
theorem d337_7 : decode (hs_code 337) 7 = .ok (.putfield 63, 3) := by decide +kernel
theorem d337_10 : decode (hs_code 337) 10 = .ok (.aload_n 0, 1) := by decide +kernel
theorem d337_11 : decode (hs_code 337) 11 = .ok (.invokevirtual 448, 3) := by decide +kernel
theorem d337_14 : decode (hs_code 337) 14 = .ok (.istore_n 1, 1) := by decide +kernel
theorem d337_15 : decode (hs_code 337) 15 = .ok (.iload_n 1, 1) := by decide +kernel
theorem d337_16 : decode (hs_code 337) 16 = .ok (.ifCond .ge 12, 3) := by decide +kernel
theorem d337_19 : decode (hs_code 337) 19 = .ok (.aload_n 0, 1) := by decide +kernel
theorem d337_20 : decode (hs_code 337) 20 = .ok (.bipush 8, 2) := by decide +kernel
theorem d337_22 : decode (hs_code 337) 22 = .ok (.invokevirtual 322, 3) := by decide +kernel
theorem d337_25 : decode (hs_code 337) 25 = .ok (.goto 4, 3) := by decide +kernel
theorem d337_28 : decode (hs_code 337) 28 = .ok (.iload_n 1, 1) := by decide +kernel
theorem d337_29 : decode (hs_code 337) 29 = .ok (.ireturn, 1) := by decide +kernel
theorem d338_0 : decode (hs_code 338) 0 = .ok (.aload_n 0, 1) := by decide +kernel
theorem d338_1 : decode (hs_code 338) 1 = .ok (.iconst 0, 1) := by decide +kernel
theorem d338_2 : decode (hs_code 338) 2 = .ok (.putfield 60, 3) := by decide +kernel
theorem d338_5 : decode (hs_code 338) 5 = .ok (.aload_n 0, 1) := by decide +kernel
theorem d338_6 : decode (hs_code 338) 6 = .ok (.iconst 0, 1) := by decide +kernel
theorem d338_7 : decode (hs_code 338) 7 = .ok (.putfield 63, 3) := by decide +kernel
theorem d338_10 : decode (hs_code 338) 10 = .ok (.aload_n 0, 1) := by decide +kernel
theorem d338_11 : decode (hs_code 338) 11 = .ok (.iload_n 1, 1) := by decide +kernel
theorem d338_12 : decode (hs_code 338) 12 = .ok (.invokevirtual 451, 3) := by decide +kernel
theorem d338_15 : decode (hs_code 338) 15 = .ok (.ifCond .ne 9, 3) := by decide +kernel
theorem d338_18 : decode (hs_code 338) 18 = .ok (.aload_n 0, 1) := by decide +kernel
theorem d338_19 : decode (hs_code 338) 19 = .ok (.iconst 2, 1) := by decide +kernel
theorem d338_20 : decode (hs_code 338) 20 = .ok (.invokevirtual 322, 3) := by decide +kernel
theorem d338_23 : decode (hs_code 338) 23 = .ok (.ireturn, 1) := by decide +kernel
theorem d338_24 : decode (hs_code 338) 24 = .ok (.iconst 0, 1) := by decide +kernel
theorem d338_25 : decode (hs_code 338) 25 = .ok (.istore_n 2, 1) := by decide +kernel
theorem d338_26 : decode (hs_code 338) 26 = .ok (.iconst 0, 1) := by decide +kernel
theorem d338_27 : decode (hs_code 338) 27 = .ok (.istore_n 3, 1) := by decide +kernel
theorem d338_28 : decode (hs_code 338) 28 = .ok (.iload_n 3, 1) := by decide +kernel
theorem d338_29 : decode (hs_code 338) 29 = .ok (.aload_n 0, 1) := by decide +kernel
theorem d338_30 : decode (hs_code 338) 30 = .ok (.getfield 35, 3) := by decide +kernel
theorem d338_33 : decode (hs_code 338) 33 = .ok (.iconst 5, 1) := by decide +kernel
theorem d338_34 : decode (hs_code 338) 34 = .ok (.iaload, 1) := by decide +kernel
theorem d338_35 : decode (hs_code 338) 35 = .ok (.if_icmp .ge 67, 3) := by decide +kernel
theorem d338_38 : decode (hs_code 338) 38 = .ok (.iload_n 2, 1) := by decide +kernel
theorem d338_39 : decode (hs_code 338) 39 = .ok (.aload_n 0, 1) := by decide +kernel
theorem d338_40 : decode (hs_code 338) 40 = .ok (.getfield 35, 3) := by decide +kernel
theorem d338_43 : decode (hs_code 338) 43 = .ok (.bipush 107, 2) := by decide +kernel
theorem d338_45 : decode (hs_code 338) 45 = .ok (.iload_n 3, 1) := by decide +kernel
theorem d338_46 : decode (hs_code 338) 46 = .ok (.iadd, 1) := by decide +kernel
theorem d338_47 : decode (hs_code 338) 47 = .ok (.iaload, 1) := by decide +kernel
theorem d338_48 : decode (hs_code 338) 48 = .ok (.iload_n 1, 1) := by decide +kernel
theorem d338_49 : decode (hs_code 338) 49 = .ok (.if_icmp .ne 17, 3) := by decide +kernel
theorem d338_52 : decode (hs_code 338) 52 = .ok (.iconst 1, 1) := by decide +kernel
theorem d338_53 : decode (hs_code 338) 53 = .ok (.aload_n 0, 1) := by decide +kernel
theorem d338_54 : decode (hs_code 338) 54 = .ok (.getfield 35, 3) := by decide +kernel
theorem d338_57 : decode (hs_code 338) 57 = .ok (.bipush 117, 2) := by decide +kernel
theorem d338_59 : decode (hs_code 338) 59 = .ok (.iload_n 3, 1) := by decide +kernel
theorem d338_60 : decode (hs_code 338) 60 = .ok (.iadd, 1) := by decide +kernel
theorem d338_61 : decode (hs_code 338) 61 = .ok (.iaload, 1) := by decide +kernel
theorem d338_62 : decode (hs_code 338) 62 = .ok (.ishl, 1) := by decide +kernel
theorem d338_63 : decode (hs_code 338) 63 = .ok (.goto 31, 3) := by decide +kernel
theorem d338_66 : decode (hs_code 338) 66 = .ok (.aload_n 0, 1) := by decide +kernel
theorem d338_67 : decode (hs_code 338) 67 = .ok (.getfield 35, 3) := by decide +kernel
theorem d338_70 : decode (hs_code 338) 70 = .ok (.bipush 117, 2) := by decide +kernel
theorem d338_72 : decode (hs_code 338) 72 = .ok (.iload_n 3, 1) := by decide +kernel
theorem d338_73 : decode (hs_code 338) 73 = .ok (.iadd, 1) := by decide +kernel
theorem d338_74 : decode (hs_code 338) 74 = .ok (.iaload, 1) := by decide +kernel
theorem d338_75 : decode (hs_code 338) 75 = .ok (.iload_n 1, 1) := by decide +kernel
theorem d338_76 : decode (hs_code 338) 76 = .ok (.if_icmp .ne 17, 3) := by decide +kernel
theorem d338_79 : decode (hs_code 338) 79 = .ok (.iconst 1, 1) := by decide +kernel
theorem d338_80 : decode (hs_code 338) 80 = .ok (.aload_n 0, 1) := by decide +kernel
theorem d338_81 : decode (hs_code 338) 81 = .ok (.getfield 35, 3) := by decide +kernel
theorem d338_84 : decode (hs_code 338) 84 = .ok (.bipush 107, 2) := by decide +kernel
theorem d338_86 : decode (hs_code 338) 86 = .ok (.iload_n 3, 1) := by decide +kernel
theorem d338_87 : decode (hs_code 338) 87 = .ok (.iadd, 1) := by decide +kernel
theorem d338_88 : decode (hs_code 338) 88 = .ok (.iaload, 1) := by decide +kernel
theorem d338_89 : decode (hs_code 338) 89 = .ok (.ishl, 1) := by decide +kernel
theorem d338_90 : decode (hs_code 338) 90 = .ok (.goto 4, 3) := by decide +kernel
theorem d338_93 : decode (hs_code 338) 93 = .ok (.iconst 0, 1) := by decide +kernel
theorem d338_94 : decode (hs_code 338) 94 = .ok (.ior, 1) := by decide +kernel
theorem d338_95 : decode (hs_code 338) 95 = .ok (.istore_n 2, 1) := by decide +kernel
theorem d338_96 : decode (hs_code 338) 96 = .ok (.iinc 3 1, 3) := by decide +kernel
theorem d338_99 : decode (hs_code 338) 99 = .ok (.goto (-71), 3) := by decide +kernel
theorem d338_102 : decode (hs_code 338) 102 = .ok (.iload_n 2, 1) := by decide +kernel
theorem d338_103 : decode (hs_code 338) 103 = .ok (.ireturn, 1) := by decide +kernel
theorem d339_0 : decode (hs_code 339) 0 = .ok (.iload_n 1, 1) := by decide +kernel
theorem d339_1 : decode (hs_code 339) 1 = .ok (.i2l, 1) := by decide +kernel
theorem d339_2 : decode (hs_code 339) 2 = .ok (.lconst 0, 1) := by decide +kernel
theorem d339_3 : decode (hs_code 339) 3 = .ok (.aload_n 0, 1) := by decide +kernel
theorem d339_4 : decode (hs_code 339) 4 = .ok (.getfield 35, 3) := by decide +kernel
theorem d339_7 : decode (hs_code 339) 7 = .ok (.iconst 4, 1) := by decide +kernel
theorem d339_8 : decode (hs_code 339) 8 = .ok (.iaload, 1) := by decide +kernel
theorem d339_9 : decode (hs_code 339) 9 = .ok (.iconst 1, 1) := by decide +kernel
theorem d339_10 : decode (hs_code 339) 10 = .ok (.isub, 1) := by decide +kernel
theorem d339_11 : decode (hs_code 339) 11 = .ok (.i2l, 1) := by decide +kernel
theorem d339_12 : decode (hs_code 339) 12 = .ok (.invokestatic 95, 3) := by decide +kernel
theorem d339_15 : decode (hs_code 339) 15 = .ok (.ireturn, 1) := by decide +kernel
theorem d340_0 : decode (hs_code 340) 0 = .ok (.aload_n 0, 1) := by decide +kernel
theorem d340_1 : decode (hs_code 340) 1 = .ok (.iconst 0, 1) := by decide +kernel
theorem d340_2 : decode (hs_code 340) 2 = .ok (.putfield 60, 3) := by decide +kernel
theorem d340_5 : decode (hs_code 340) 5 = .ok (.aload_n 0, 1) := by decide +kernel
theorem d340_6 : decode (hs_code 340) 6 = .ok (.iconst 0, 1) := by decide +kernel
theorem d340_7 : decode (hs_code 340) 7 = .ok (.putfield 63, 3) := by decide +kernel
theorem d340_10 : decode (hs_code 340) 10 = .ok (.iload_n 1, 1) := by decide +kernel
theorem d340_11 : decode (hs_code 340) 11 = .ok (.i2l, 1) := by decide +kernel
theorem d340_12 : decode (hs_code 340) 12 = .ok (.lconst 0, 1) := by decide +kernel
theorem d340_13 : decode (hs_code 340) 13 = .ok (.ldc2_w 93, 3) := by decide +kernel
theorem d340_16 : decode (hs_code 340) 16 = .ok (.invokestatic 95, 3) := by decide +kernel
theorem d340_19 : decode (hs_code 340) 19 = .ok (.ifCond .eq 12, 3) := by decide +kernel
theorem d340_22 : decode (hs_code 340) 22 = .ok (.aload_n 0, 1) := by decide +kernel
theorem d340_23 : decode (hs_code 340) 23 = .ok (.iconst 0, 1) := by decide +kernel
theorem d340_24 : decode (hs_code 340) 24 = .ok (.iload_n 1, 1) := by decide +kernel
theorem d340_25 : decode (hs_code 340) 25 = .ok (.invokevirtual 454, 3) := by decide +kernel
theorem d340_28 : decode (hs_code 340) 28 = .ok (.goto 8, 3) := by decide +kernel
theorem d340_31 : decode (hs_code 340) 31 = .ok (.aload_n 0, 1) := by decide +kernel
theorem d340_32 : decode (hs_code 340) 32 = .ok (.iconst 5, 1) := by decide +kernel
theorem d340_33 : decode (hs_code 340) 33 = .ok (.invokevirtual 322, 3) := by decide +kernel
theorem d340_36 : decode (hs_code 340) 36 = .ok (.ireturn, 1) := by decide +kernel
theorem d341_0 : decode (hs_code 341) 0 = .ok (.iload_n 1, 1) := by decide +kernel
theorem d341_1 : decode (hs_code 341) 1 = .ok (.iload_n 2, 1) := by decide +kernel
theorem d341_2 : decode (hs_code 341) 2 = .ok (.if_icmp .ne 36, 3) := by decide +kernel
theorem d341_5 : decode (hs_code 341) 5 = .ok (.aload_n 0, 1) := by decide +kernel
theorem d341_6 : decode (hs_code 341) 6 = .ok (.iconst 0, 1) := by decide +kernel
theorem d341_7 : decode (hs_code 341) 7 = .ok (.aload_n 0, 1) := by decide +kernel
theorem d341_8 : decode (hs_code 341) 8 = .ok (.getfield 35, 3) := by decide +kernel
theorem d341_11 : decode (hs_code 341) 11 = .ok (.iconst 0, 1) := by decide +kernel
theorem d341_12 : decode (hs_code 341) 12 = .ok (.iaload, 1) := by decide +kernel
theorem d341_13 : decode (hs_code 341) 13 = .ok (.iconst 2, 1) := by decide +kernel
theorem d341_14 : decode (hs_code 341) 14 = .ok (.idiv, 1) := by decide +kernel
theorem d341_15 : decode (hs_code 341) 15 = .ok (.invokevirtual 334, 3) := by decide +kernel
theorem d341_18 : decode (hs_code 341) 18 = .ok (.aload_n 0, 1) := by decide +kernel
theorem d341_19 : decode (hs_code 341) 19 = .ok (.aload_n 0, 1) := by decide +kernel
theorem d341_20 : decode (hs_code 341) 20 = .ok (.getfield 35, 3) := by decide +kernel
theorem d341_23 : decode (hs_code 341) 23 = .ok (.iconst 0, 1) := by decide +kernel
theorem d341_24 : decode (hs_code 341) 24 = .ok (.iaload, 1) := by decide +kernel
theorem d341_25 : decode (hs_code 341) 25 = .ok (.iconst 2, 1) := by decide +kernel
theorem d341_26 : decode (hs_code 341) 26 = .ok (.idiv, 1) := by decide +kernel
theorem d341_27 : decode (hs_code 341) 27 = .ok (.aload_n 0, 1) := by decide +kernel
theorem d341_28 : decode (hs_code 341) 28 = .ok (.getfield 35, 3) := by decide +kernel
theorem d341_31 : decode (hs_code 341) 31 = .ok (.iconst 0, 1) := by decide +kernel
theorem d341_32 : decode (hs_code 341) 32 = .ok (.iaload, 1) := by decide +kernel
theorem d341_33 : decode (hs_code 341) 33 = .ok (.invokevirtual 334, 3) := by decide +kernel
theorem d341_36 : decode (hs_code 341) 36 = .ok (.isub, 1) := by decide +kernel
theorem d341_37 : decode (hs_code 341) 37 = .ok (.ireturn, 1) := by decide +kernel
theorem d341_38 : decode (hs_code 341) 38 = .ok (.iload_n 1, 1) := by decide +kernel
theorem d341_39 : decode (hs_code 341) 39 = .ok (.iconst 2, 1) := by decide +kernel
theorem d341_40 : decode (hs_code 341) 40 = .ok (.irem, 1) := by decide +kernel
theorem d341_41 : decode (hs_code 341) 41 = .ok (.ifCond .ne 7, 3) := by decide +kernel
theorem d341_44 : decode (hs_code 341) 44 = .ok (.iconst 1, 1) := by decide +kernel
theorem d341_45 : decode (hs_code 341) 45 = .ok (.goto 4, 3) := by decide +kernel
theorem d341_48 : decode (hs_code 341) 48 = .ok (.iconst 0, 1) := by decide +kernel
theorem d341_49 : decode (hs_code 341) 49 = .ok (.istore_n 3, 1) := by decide +kernel
theorem d341_50 : decode (hs_code 341) 50 = .ok (.iconst 0, 1) := by decide +kernel
theorem d341_51 : decode (hs_code 341) 51 = .ok (.istore 4, 2) := by decide +kernel
theorem d341_53 : decode (hs_code 341) 53 = .ok (.iconst (-1), 1) := by decide +kernel
theorem d341_54 : decode (hs_code 341) 54 = .ok (.istore 5, 2) := by decide +kernel
theorem d341_56 : decode (hs_code 341) 56 = .ok (.iconst 0, 1) := by decide +kernel
theorem d341_57 : decode (hs_code 341) 57 = .ok (.istore 6, 2) := by decide +kernel
theorem d341_59 : decode (hs_code 341) 59 = .ok (.iload 6, 2) := by decide +kernel
theorem d341_61 : decode (hs_code 341) 61 = .ok (.bipush 127, 2) := by decide +kernel
theorem d341_63 : decode (hs_code 341) 63 = .ok (.if_icmp .ge 28, 3) := by decide +kernel
theorem d341_66 : decode (hs_code 341) 66 = .ok (.aload_n 0, 1) := by decide +kernel
theorem d341_67 : decode (hs_code 341) 67 = .ok (.getfield 47, 3) := by decide +kernel
theorem d341_70 : decode (hs_code 341) 70 = .ok (.bipush 127, 2) := by decide +kernel
theorem d341_72 : decode (hs_code 341) 72 = .ok (.iload_n 1, 1) := by decide +kernel
theorem d341_73 : decode (hs_code 341) 73 = .ok (.imul, 1) := by decide +kernel
theorem d341_74 : decode (hs_code 341) 74 = .ok (.iload 6, 2) := by decide +kernel
theorem d341_76 : decode (hs_code 341) 76 = .ok (.iadd, 1) := by decide +kernel
theorem d341_77 : decode (hs_code 341) 77 = .ok (.aload_n 0, 1) := by decide +kernel
theorem d341_78 : decode (hs_code 341) 78 = .ok (.getfield 35, 3) := by decide +kernel
theorem d341_81 : decode (hs_code 341) 81 = .ok (.iload 6, 2) := by decide +kernel
theorem d341_83 : decode (hs_code 341) 83 = .ok (.iaload, 1) := by decide +kernel
theorem d341_84 : decode (hs_code 341) 84 = .ok (.iastore, 1) := by decide +kernel
theorem d341_85 : decode (hs_code 341) 85 = .ok (.iinc 6 1, 3) := by decide +kernel
theorem d341_88 : decode (hs_code 341) 88 = .ok (.goto (-29), 3) := by decide +kernel
theorem d341_91 : decode (hs_code 341) 91 = .ok (.iconst 0, 1) := by decide +kernel
theorem d341_92 : decode (hs_code 341) 92 = .ok (.istore 6, 2) := by decide +kernel
theorem d341_94 : decode (hs_code 341) 94 = .ok (.iload 6, 2) := by decide +kernel
theorem d341_96 : decode (hs_code 341) 96 = .ok (.aload_n 0, 1) := by decide +kernel
theorem d341_97 : decode (hs_code 341) 97 = .ok (.getfield 35, 3) := by decide +kernel
theorem d341_100 : decode (hs_code 341) 100 = .ok (.iconst 0, 1) := by decide +kernel
theorem d341_101 : decode (hs_code 341) 101 = .ok (.iaload, 1) := by decide +kernel
theorem d341_102 : decode (hs_code 341) 102 = .ok (.if_icmp .gt 117, 3) := by decide +kernel
theorem d341_105 : decode (hs_code 341) 105 = .ok (.iload 6, 2) := by decide +kernel
theorem d341_107 : decode (hs_code 341) 107 = .ok (.aload_n 0, 1) := by decide +kernel
theorem d341_108 : decode (hs_code 341) 108 = .ok (.getfield 35, 3) := by decide +kernel
theorem d341_111 : decode (hs_code 341) 111 = .ok (.iconst 0, 1) := by decide +kernel
theorem d341_112 : decode (hs_code 341) 112 = .ok (.iaload, 1) := by decide +kernel
theorem d341_113 : decode (hs_code 341) 113 = .ok (.if_icmp .ge 14, 3) := by decide +kernel
theorem d341_116 : decode (hs_code 341) 116 = .ok (.aload_n 0, 1) := by decide +kernel
theorem d341_117 : decode (hs_code 341) 117 = .ok (.getfield 35, 3) := by decide +kernel
theorem d341_120 : decode (hs_code 341) 120 = .ok (.bipush 10, 2) := by decide +kernel
theorem d341_122 : decode (hs_code 341) 122 = .ok (.iload 6, 2) := by decide +kernel
theorem d341_124 : decode (hs_code 341) 124 = .ok (.iadd, 1) := by decide +kernel
theorem d341_125 : decode (hs_code 341) 125 = .ok (.iconst 0, 1) := by decide +kernel
theorem d341_126 : decode (hs_code 341) 126 = .ok (.iastore, 1) := by decide +kernel
theorem d341_127 : decode (hs_code 341) 127 = .ok (.aload_n 0, 1) := by decide +kernel
theorem d341_128 : decode (hs_code 341) 128 = .ok (.invokevirtual 361, 3) := by decide +kernel
theorem d341_131 : decode (hs_code 341) 131 = .ok (.aload_n 0, 1) := by decide +kernel
theorem d341_132 : decode (hs_code 341) 132 = .ok (.iload_n 1, 1) := by decide +kernel
theorem d341_133 : decode (hs_code 341) 133 = .ok (.iconst 1, 1) := by decide +kernel
theorem d341_134 : decode (hs_code 341) 134 = .ok (.iadd, 1) := by decide +kernel
theorem d341_135 : decode (hs_code 341) 135 = .ok (.iload_n 2, 1) := by decide +kernel
theorem d341_136 : decode (hs_code 341) 136 = .ok (.invokevirtual 454, 3) := by decide +kernel
theorem d341_139 : decode (hs_code 341) 139 = .ok (.istore 7, 2) := by decide +kernel
theorem d341_141 : decode (hs_code 341) 141 = .ok (.iconst 0, 1) := by decide +kernel
theorem d341_142 : decode (hs_code 341) 142 = .ok (.istore 8, 2) := by decide +kernel
theorem d341_144 : decode (hs_code 341) 144 = .ok (.iload 8, 2) := by decide +kernel
theorem d341_146 : decode (hs_code 341) 146 = .ok (.bipush 127, 2) := by decide +kernel
theorem d341_148 : decode (hs_code 341) 148 = .ok (.if_icmp .ge 28, 3) := by decide +kernel
theorem d341_151 : decode (hs_code 341) 151 = .ok (.aload_n 0, 1) := by decide +kernel
theorem d341_152 : decode (hs_code 341) 152 = .ok (.getfield 35, 3) := by decide +kernel
theorem d341_155 : decode (hs_code 341) 155 = .ok (.iload 8, 2) := by decide +kernel
theorem d341_157 : decode (hs_code 341) 157 = .ok (.aload_n 0, 1) := by decide +kernel
theorem d341_158 : decode (hs_code 341) 158 = .ok (.getfield 47, 3) := by decide +kernel
theorem d341_161 : decode (hs_code 341) 161 = .ok (.bipush 127, 2) := by decide +kernel
theorem d341_163 : decode (hs_code 341) 163 = .ok (.iload_n 1, 1) := by decide +kernel
theorem d341_164 : decode (hs_code 341) 164 = .ok (.imul, 1) := by decide +kernel
theorem d341_165 : decode (hs_code 341) 165 = .ok (.iload 8, 2) := by decide +kernel
theorem d341_167 : decode (hs_code 341) 167 = .ok (.iadd, 1) := by decide +kernel
theorem d341_168 : decode (hs_code 341) 168 = .ok (.iaload, 1) := by decide +kernel
theorem d341_169 : decode (hs_code 341) 169 = .ok (.iastore, 1) := by decide +kernel
theorem d341_170 : decode (hs_code 341) 170 = .ok (.iinc 8 1, 3) := by decide +kernel
theorem d341_173 : decode (hs_code 341) 173 = .ok (.goto (-29), 3) := by decide +kernel
theorem d341_176 : decode (hs_code 341) 176 = .ok (.iload 5, 2) := by decide +kernel
theorem d341_178 : decode (hs_code 341) 178 = .ok (.ifCond .lt 27, 3) := by decide +kernel
theorem d341_181 : decode (hs_code 341) 181 = .ok (.iload_n 3, 1) := by decide +kernel
theorem d341_182 : decode (hs_code 341) 182 = .ok (.ifCond .eq 13, 3) := by decide +kernel
theorem d341_185 : decode (hs_code 341) 185 = .ok (.iload 7, 2) := by decide +kernel
theorem d341_187 : decode (hs_code 341) 187 = .ok (.iload 4, 2) := by decide +kernel
theorem d341_189 : decode (hs_code 341) 189 = .ok (.if_icmp .gt 16, 3) := by decide +kernel
theorem d341_192 : decode (hs_code 341) 192 = .ok (.goto 21, 3) := by decide +kernel
theorem d341_195 : decode (hs_code 341) 195 = .ok (.iload 7, 2) := by decide +kernel
theorem d341_197 : decode (hs_code 341) 197 = .ok (.iload 4, 2) := by decide +kernel
theorem d341_199 : decode (hs_code 341) 199 = .ok (.if_icmp .lt 6, 3) := by decide +kernel
theorem d341_202 : decode (hs_code 341) 202 = .ok (.goto 11, 3) := by decide +kernel
theorem d341_205 : decode (hs_code 341) 205 = .ok (.iload 7, 2) := by decide +kernel
theorem d341_207 : decode (hs_code 341) 207 = .ok (.istore 4, 2) := by decide +kernel
theorem d341_209 : decode (hs_code 341) 209 = .ok (.iload 6, 2) := by decide +kernel
theorem d341_211 : decode (hs_code 341) 211 = .ok (.istore 5, 2) := by decide +kernel
theorem d341_213 : decode (hs_code 341) 213 = .ok (.iinc 6 1, 3) := by decide +kernel
theorem d341_216 : decode (hs_code 341) 216 = .ok (.goto (-122), 3) := by decide +kernel
theorem d341_219 : decode (hs_code 341) 219 = .ok (.iload_n 1, 1) := by decide +kernel
theorem d341_220 : decode (hs_code 341) 220 = .ok (.ifCond .ne 9, 3) := by decide +kernel
theorem d341_223 : decode (hs_code 341) 223 = .ok (.aload_n 0, 1) := by decide +kernel
theorem d341_224 : decode (hs_code 341) 224 = .ok (.iload 5, 2) := by decide +kernel
theorem d341_226 : decode (hs_code 341) 226 = .ok (.putfield 457, 3) := by decide +kernel
theorem d341_229 : decode (hs_code 341) 229 = .ok (.iload 4, 2) := by decide +kernel
theorem d341_231 : decode (hs_code 341) 231 = .ok (.ireturn, 1) := by decide +kernel
theorem d342_0 : decode (hs_code 342) 0 = .ok (.aload_n 0, 1) := by decide +kernel
theorem d342_1 : decode (hs_code 342) 1 = .ok (.iconst 0, 1) := by decide +kernel
theorem d342_2 : decode (hs_code 342) 2 = .ok (.putfield 60, 3) := by decide +kernel
theorem d342_5 : decode (hs_code 342) 5 = .ok (.aload_n 0, 1) := by decide +kernel
theorem d342_6 : decode (hs_code 342) 6 = .ok (.iconst 0, 1) := by decide +kernel
theorem d342_7 : decode (hs_code 342) 7 = .ok (.putfield 63, 3) := by decide +kernel
theorem d342_10 : decode (hs_code 342) 10 = .ok (.iload_n 1, 1) := by decide +kernel
theorem d342_11 : decode (hs_code 342) 11 = .ok (.i2l, 1) := by decide +kernel
theorem d342_12 : decode (hs_code 342) 12 = .ok (.lconst 1, 1) := by decide +kernel
theorem d342_13 : decode (hs_code 342) 13 = .ok (.ldc2_w 93, 3) := by decide +kernel
theorem d342_16 : decode (hs_code 342) 16 = .ok (.invokestatic 95, 3) := by decide +kernel
theorem d342_19 : decode (hs_code 342) 19 = .ok (.ifCond .ne 9, 3) := by decide +kernel
theorem d342_22 : decode (hs_code 342) 22 = .ok (.aload_n 0, 1) := by decide +kernel
theorem d342_23 : decode (hs_code 342) 23 = .ok (.iconst 5, 1) := by decide +kernel
theorem d342_24 : decode (hs_code 342) 24 = .ok (.invokevirtual 322, 3) := by decide +kernel
theorem d342_27 : decode (hs_code 342) 27 = .ok (.ireturn, 1) := by decide +kernel
theorem d342_28 : decode (hs_code 342) 28 = .ok (.aload_n 0, 1) := by decide +kernel
theorem d342_29 : decode (hs_code 342) 29 = .ok (.iconst 0, 1) := by decide +kernel
theorem d342_30 : decode (hs_code 342) 30 = .ok (.iload_n 1, 1) := by decide +kernel
theorem d342_31 : decode (hs_code 342) 31 = .ok (.invokevirtual 454, 3) := by decide +kernel
theorem d342_34 : decode (hs_code 342) 34 = .ok (.pop, 1) := by decide +kernel
theorem d342_35 : decode (hs_code 342) 35 = .ok (.aload_n 0, 1) := by decide +kernel
theorem d342_36 : decode (hs_code 342) 36 = .ok (.getfield 457, 3) := by decide +kernel
theorem d342_39 : decode (hs_code 342) 39 = .ok (.aload_n 0, 1) := by decide +kernel
theorem d342_40 : decode (hs_code 342) 40 = .ok (.getfield 35, 3) := by decide +kernel
theorem d342_43 : decode (hs_code 342) 43 = .ok (.iconst 0, 1) := by decide +kernel
theorem d342_44 : decode (hs_code 342) 44 = .ok (.iaload, 1) := by decide +kernel
theorem d342_45 : decode (hs_code 342) 45 = .ok (.if_icmp .ne 12, 3) := by decide +kernel
theorem d342_48 : decode (hs_code 342) 48 = .ok (.aload_n 0, 1) := by decide +kernel
theorem d342_49 : decode (hs_code 342) 49 = .ok (.bipush 8, 2) := by decide +kernel
theorem d342_51 : decode (hs_code 342) 51 = .ok (.invokevirtual 322, 3) := by decide +kernel
theorem d342_54 : decode (hs_code 342) 54 = .ok (.goto 7, 3) := by decide +kernel
theorem d342_57 : decode (hs_code 342) 57 = .ok (.aload_n 0, 1) := by decide +kernel
theorem d342_58 : decode (hs_code 342) 58 = .ok (.getfield 457, 3) := by decide +kernel
theorem d342_61 : decode (hs_code 342) 61 = .ok (.ireturn, 1) := by decide +kernel
theorem d343_0 : decode (hs_code 343) 0 = .ok (.aload_n 0, 1) := by decide +kernel
theorem d343_1 : decode (hs_code 343) 1 = .ok (.iconst 0, 1) := by decide +kernel
theorem d343_2 : decode (hs_code 343) 2 = .ok (.putfield 60, 3) := by decide +kernel
theorem d343_5 : decode (hs_code 343) 5 = .ok (.aload_n 0, 1) := by decide +kernel
theorem d343_6 : decode (hs_code 343) 6 = .ok (.iconst 0, 1) := by decide +kernel
theorem d343_7 : decode (hs_code 343) 7 = .ok (.putfield 63, 3) := by decide +kernel
theorem d343_10 : decode (hs_code 343) 10 = .ok (.aload_n 0, 1) := by decide +kernel
theorem d343_11 : decode (hs_code 343) 11 = .ok (.iload_n 1, 1) := by decide +kernel
theorem d343_12 : decode (hs_code 343) 12 = .ok (.invokevirtual 346, 3) := by decide +kernel
theorem d343_15 : decode (hs_code 343) 15 = .ok (.ifCond .ne 9, 3) := by decide +kernel
theorem d343_18 : decode (hs_code 343) 18 = .ok (.aload_n 0, 1) := by decide +kernel
theorem d343_19 : decode (hs_code 343) 19 = .ok (.iconst 2, 1) := by decide +kernel
theorem d343_20 : decode (hs_code 343) 20 = .ok (.invokevirtual 75, 3) := by decide +kernel
theorem d343_23 : decode (hs_code 343) 23 = .ok (.ireturn, 1) := by decide +kernel
theorem d343_24 : decode (hs_code 343) 24 = .ok (.iload_n 2, 1) := by decide +kernel
theorem d343_25 : decode (hs_code 343) 25 = .ok (.i2l, 1) := by decide +kernel
theorem d343_26 : decode (hs_code 343) 26 = .ok (.lconst 0, 1) := by decide +kernel
theorem d343_27 : decode (hs_code 343) 27 = .ok (.ldc2_w 460, 3) := by decide +kernel
theorem d343_30 : decode (hs_code 343) 30 = .ok (.invokestatic 95, 3) := by decide +kernel
theorem d343_33 : decode (hs_code 343) 33 = .ok (.ifCond .ne 9, 3) := by decide +kernel
theorem d343_36 : decode (hs_code 343) 36 = .ok (.aload_n 0, 1) := by decide +kernel
theorem d343_37 : decode (hs_code 343) 37 = .ok (.iconst 5, 1) := by decide +kernel
theorem d343_38 : decode (hs_code 343) 38 = .ok (.invokevirtual 75, 3) := by decide +kernel
theorem d343_41 : decode (hs_code 343) 41 = .ok (.ireturn, 1) := by decide +kernel
theorem d343_42 : decode (hs_code 343) 42 = .ok (.lconst 1, 1) := by decide +kernel
theorem d343_43 : decode (hs_code 343) 43 = .ok (.lstore_n 3, 1) := by decide +kernel
theorem d343_44 : decode (hs_code 343) 44 = .ok (.iconst 0, 1) := by decide +kernel
theorem d343_45 : decode (hs_code 343) 45 = .ok (.istore 5, 2) := by decide +kernel
theorem d343_47 : decode (hs_code 343) 47 = .ok (.iload 5, 2) := by decide +kernel
theorem d343_49 : decode (hs_code 343) 49 = .ok (.bipush 8, 2) := by decide +kernel
theorem d343_51 : decode (hs_code 343) 51 = .ok (.if_icmp .gt 26, 3) := by decide +kernel
theorem d343_54 : decode (hs_code 343) 54 = .ok (.aload_n 0, 1) := by decide +kernel
theorem d343_55 : decode (hs_code 343) 55 = .ok (.getfield 50, 3) := by decide +kernel
theorem d343_58 : decode (hs_code 343) 58 = .ok (.iload 5, 2) := by decide +kernel
theorem d343_60 : decode (hs_code 343) 60 = .ok (.iload 5, 2) := by decide +kernel
theorem d343_62 : decode (hs_code 343) 62 = .ok (.ifCond .ne 7, 3) := by decide +kernel
theorem d343_65 : decode (hs_code 343) 65 = .ok (.lconst 1, 1) := by decide +kernel
theorem d343_66 : decode (hs_code 343) 66 = .ok (.goto 4, 3) := by decide +kernel
theorem d343_69 : decode (hs_code 343) 69 = .ok (.lconst 0, 1) := by decide +kernel
theorem d343_70 : decode (hs_code 343) 70 = .ok (.lastore, 1) := by decide +kernel
theorem d343_71 : decode (hs_code 343) 71 = .ok (.iinc 5 1, 3) := by decide +kernel
theorem d343_74 : decode (hs_code 343) 74 = .ok (.goto (-27), 3) := by decide +kernel
theorem d343_77 : decode (hs_code 343) 77 = .ok (.iconst 0, 1) := by decide +kernel
theorem d343_78 : decode (hs_code 343) 78 = .ok (.istore 5, 2) := by decide +kernel
theorem d343_80 : decode (hs_code 343) 80 = .ok (.iload 5, 2) := by decide +kernel
theorem d343_82 : decode (hs_code 343) 82 = .ok (.aload_n 0, 1) := by decide +kernel
theorem d343_83 : decode (hs_code 343) 83 = .ok (.getfield 35, 3) := by decide +kernel
theorem d343_86 : decode (hs_code 343) 86 = .ok (.iconst 0, 1) := by decide +kernel
theorem d343_87 : decode (hs_code 343) 87 = .ok (.iaload, 1) := by decide +kernel
theorem d343_88 : decode (hs_code 343) 88 = .ok (.if_icmp .ge 109, 3) := by decide +kernel
theorem d343_91 : decode (hs_code 343) 91 = .ok (.aload_n 0, 1) := by decide +kernel
theorem d343_92 : decode (hs_code 343) 92 = .ok (.iload_n 1, 1) := by decide +kernel
theorem d343_93 : decode (hs_code 343) 93 = .ok (.iload 5, 2) := by decide +kernel
theorem d343_95 : decode (hs_code 343) 95 = .ok (.invokevirtual 349, 3) := by decide +kernel
theorem d343_98 : decode (hs_code 343) 98 = .ok (.iconst 3, 1) := by decide +kernel
theorem d343_99 : decode (hs_code 343) 99 = .ok (.if_icmp .ne 6, 3) := by decide +kernel
theorem d343_102 : decode (hs_code 343) 102 = .ok (.goto 89, 3) := by decide +kernel
theorem d343_105 : decode (hs_code 343) 105 = .ok (.bipush 8, 2) := by decide +kernel
theorem d343_107 : decode (hs_code 343) 107 = .ok (.istore 6, 2) := by decide +kernel
theorem d343_109 : decode (hs_code 343) 109 = .ok (.iload 6, 2) := by decide +kernel
theorem d343_111 : decode (hs_code 343) 111 = .ok (.ifCond .le 54, 3) := by decide +kernel
theorem d343_114 : decode (hs_code 343) 114 = .ok (.aload_n 0, 1) := by decide +kernel
theorem d343_115 : decode (hs_code 343) 115 = .ok (.getfield 50, 3) := by decide +kernel
theorem d343_118 : decode (hs_code 343) 118 = .ok (.iload 6, 2) := by decide +kernel
theorem d343_120 : decode (hs_code 343) 120 = .ok (.aload_n 0, 1) := by decide +kernel
theorem d343_121 : decode (hs_code 343) 121 = .ok (.getfield 50, 3) := by decide +kernel
theorem d343_124 : decode (hs_code 343) 124 = .ok (.iload 6, 2) := by decide +kernel
theorem d343_126 : decode (hs_code 343) 126 = .ok (.laload, 1) := by decide +kernel
theorem d343_127 : decode (hs_code 343) 127 = .ok (.bipush 16, 2) := by decide +kernel
theorem d343_129 : decode (hs_code 343) 129 = .ok (.aload_n 0, 1) := by decide +kernel
theorem d343_130 : decode (hs_code 343) 130 = .ok (.getfield 35, 3) := by decide +kernel
theorem d343_133 : decode (hs_code 343) 133 = .ok (.bipush 6, 2) := by decide +kernel
theorem d343_135 : decode (hs_code 343) 135 = .ok (.iaload, 1) := by decide +kernel
theorem d343_136 : decode (hs_code 343) 136 = .ok (.isub, 1) := by decide +kernel
theorem d343_137 : decode (hs_code 343) 137 = .ok (.i2l, 1) := by decide +kernel
theorem d343_138 : decode (hs_code 343) 138 = .ok (.lmul, 1) := by decide +kernel
theorem d343_139 : decode (hs_code 343) 139 = .ok (.aload_n 0, 1) := by decide +kernel
theorem d343_140 : decode (hs_code 343) 140 = .ok (.getfield 50, 3) := by decide +kernel
theorem d343_143 : decode (hs_code 343) 143 = .ok (.iload 6, 2) := by decide +kernel
theorem d343_145 : decode (hs_code 343) 145 = .ok (.iconst 1, 1) := by decide +kernel
theorem d343_146 : decode (hs_code 343) 146 = .ok (.isub, 1) := by decide +kernel
theorem d343_147 : decode (hs_code 343) 147 = .ok (.laload, 1) := by decide +kernel
theorem d343_148 : decode (hs_code 343) 148 = .ok (.aload_n 0, 1) := by decide +kernel
theorem d343_149 : decode (hs_code 343) 149 = .ok (.getfield 35, 3) := by decide +kernel
theorem d343_152 : decode (hs_code 343) 152 = .ok (.bipush 6, 2) := by decide +kernel
theorem d343_154 : decode (hs_code 343) 154 = .ok (.iaload, 1) := by decide +kernel
theorem d343_155 : decode (hs_code 343) 155 = .ok (.i2l, 1) := by decide +kernel
theorem d343_156 : decode (hs_code 343) 156 = .ok (.lmul, 1) := by decide +kernel
theorem d343_157 : decode (hs_code 343) 157 = .ok (.ladd, 1) := by decide +kernel
theorem d343_158 : decode (hs_code 343) 158 = .ok (.lastore, 1) := by decide +kernel
theorem d343_159 : decode (hs_code 343) 159 = .ok (.iinc 6 (-1), 3) := by decide +kernel
theorem d343_162 : decode (hs_code 343) 162 = .ok (.goto (-53), 3) := by decide +kernel
theorem d343_165 : decode (hs_code 343) 165 = .ok (.aload_n 0, 1) := by decide +kernel
theorem d343_166 : decode (hs_code 343) 166 = .ok (.getfield 50, 3) := by decide +kernel
theorem d343_169 : decode (hs_code 343) 169 = .ok (.iconst 0, 1) := by decide +kernel
theorem d343_170 : decode (hs_code 343) 170 = .ok (.dup2, 1) := by decide +kernel
theorem d343_171 : decode (hs_code 343) 171 = .ok (.laload, 1) := by decide +kernel
theorem d343_172 : decode (hs_code 343) 172 = .ok (.bipush 16, 2) := by decide +kernel
theorem d343_174 : decode (hs_code 343) 174 = .ok (.aload_n 0, 1) := by decide +kernel
theorem d343_175 : decode (hs_code 343) 175 = .ok (.getfield 35, 3) := by decide +kernel
theorem d343_178 : decode (hs_code 343) 178 = .ok (.bipush 6, 2) := by decide +kernel
theorem d343_180 : decode (hs_code 343) 180 = .ok (.iaload, 1) := by decide +kernel
theorem d343_181 : decode (hs_code 343) 181 = .ok (.isub, 1) := by decide +kernel
theorem d343_182 : decode (hs_code 343) 182 = .ok (.i2l, 1) := by decide +kernel
theorem d343_183 : decode (hs_code 343) 183 = .ok (.lmul, 1) := by decide +kernel
theorem d343_184 : decode (hs_code 343) 184 = .ok (.lastore, 1) := by decide +kernel
theorem d343_185 : decode (hs_code 343) 185 = .ok (.lload_n 3, 1) := by decide +kernel
theorem d343_186 : decode (hs_code 343) 186 = .ok (.ldc2_w 387, 3) := by decide +kernel
theorem d343_189 : decode (hs_code 343) 189 = .ok (.lmul, 1) := by decide +kernel
theorem d343_190 : decode (hs_code 343) 190 = .ok (.lstore_n 3, 1) := by decide +kernel
theorem d343_191 : decode (hs_code 343) 191 = .ok (.iinc 5 1, 3) := by decide +kernel
theorem d343_194 : decode (hs_code 343) 194 = .ok (.goto (-114), 3) := by decide +kernel
theorem d343_197 : decode (hs_code 343) 197 = .ok (.lconst 0, 1) := by decide +kernel
theorem d343_198 : decode (hs_code 343) 198 = .ok (.lstore 5, 2) := by decide +kernel
theorem d343_200 : decode (hs_code 343) 200 = .ok (.iconst 0, 1) := by decide +kernel
theorem d343_201 : decode (hs_code 343) 201 = .ok (.istore 7, 2) := by decide +kernel
theorem d343_203 : decode (hs_code 343) 203 = .ok (.iload 7, 2) := by decide +kernel
theorem d343_205 : decode (hs_code 343) 205 = .ok (.iload_n 2, 1) := by decide +kernel
theorem d343_206 : decode (hs_code 343) 206 = .ok (.if_icmp .gt 21, 3) := by decide +kernel
theorem d343_209 : decode (hs_code 343) 209 = .ok (.lload 5, 2) := by decide +kernel
theorem d343_211 : decode (hs_code 343) 211 = .ok (.aload_n 0, 1) := by decide +kernel
theorem d343_212 : decode (hs_code 343) 212 = .ok (.getfield 50, 3) := by decide +kernel
theorem d343_215 : decode (hs_code 343) 215 = .ok (.iload 7, 2) := by decide +kernel
theorem d343_217 : decode (hs_code 343) 217 = .ok (.laload, 1) := by decide +kernel
theorem d343_218 : decode (hs_code 343) 218 = .ok (.ladd, 1) := by decide +kernel
theorem d343_219 : decode (hs_code 343) 219 = .ok (.lstore 5, 2) := by decide +kernel
theorem d343_221 : decode (hs_code 343) 221 = .ok (.iinc 7 1, 3) := by decide +kernel
theorem d343_224 : decode (hs_code 343) 224 = .ok (.goto (-21), 3) := by decide +kernel
theorem d343_227 : decode (hs_code 343) 227 = .ok (.aload_n 0, 1) := by decide +kernel
theorem d343_228 : decode (hs_code 343) 228 = .ok (.lload 5, 2) := by decide +kernel
theorem d343_230 : decode (hs_code 343) 230 = .ok (.lload_n 3, 1) := by decide +kernel
theorem d343_231 : decode (hs_code 343) 231 = .ok (.invokevirtual 462, 3) := by decide +kernel
theorem d343_234 : decode (hs_code 343) 234 = .ok (.ireturn, 1) := by decide +kernel
theorem d344_0 : decode (hs_code 344) 0 = .ok (.lload_n 1, 1) := by decide +kernel
theorem d344_1 : decode (hs_code 344) 1 = .ok (.invokestatic 69, 3) := by decide +kernel
theorem d344_4 : decode (hs_code 344) 4 = .ok (.lstore 5, 2) := by decide +kernel
theorem d344_6 : decode (hs_code 344) 6 = .ok (.lload_n 3, 1) := by decide +kernel
theorem d344_7 : decode (hs_code 344) 7 = .ok (.lstore 7, 2) := by decide +kernel
theorem d344_9 : decode (hs_code 344) 9 = .ok (.lload 7, 2) := by decide +kernel
theorem d344_11 : decode (hs_code 344) 11 = .ok (.lconst 0, 1) := by decide +kernel
theorem d344_12 : decode (hs_code 344) 12 = .ok (.lcmp, 1) := by decide +kernel
theorem d344_13 : decode (hs_code 344) 13 = .ok (.ifCond .eq 21, 3) := by decide +kernel
theorem d344_16 : decode (hs_code 344) 16 = .ok (.lload 5, 2) := by decide +kernel
theorem d344_18 : decode (hs_code 344) 18 = .ok (.lload 7, 2) := by decide +kernel
theorem d344_20 : decode (hs_code 344) 20 = .ok (.lrem, 1) := by decide +kernel
theorem d344_21 : decode (hs_code 344) 21 = .ok (.lstore 9, 2) := by decide +kernel
theorem d344_23 : decode (hs_code 344) 23 = .ok (.lload 7, 2) := by decide +kernel
theorem d344_25 : decode (hs_code 344) 25 = .ok (.lstore 5, 2) := by decide +kernel
theorem d344_27 : decode (hs_code 344) 27 = .ok (.lload 9, 2) := by decide +kernel
theorem d344_29 : decode (hs_code 344) 29 = .ok (.lstore 7, 2) := by decide +kernel
theorem d344_31 : decode (hs_code 344) 31 = .ok (.goto (-22), 3) := by decide +kernel
theorem d344_34 : decode (hs_code 344) 34 = .ok (.aload_n 0, 1) := by decide +kernel
theorem d344_35 : decode (hs_code 344) 35 = .ok (.lload_n 1, 1) := by decide +kernel
theorem d344_36 : decode (hs_code 344) 36 = .ok (.lload 5, 2) := by decide +kernel
theorem d344_38 : decode (hs_code 344) 38 = .ok (.ldiv, 1) := by decide +kernel
theorem d344_39 : decode (hs_code 344) 39 = .ok (.putfield 66, 3) := by decide +kernel
theorem d344_42 : decode (hs_code 344) 42 = .ok (.aload_n 0, 1) := by decide +kernel
theorem d344_43 : decode (hs_code 344) 43 = .ok (.lload_n 3, 1) := by decide +kernel
theorem d344_44 : decode (hs_code 344) 44 = .ok (.lload 5, 2) := by decide +kernel
theorem d344_46 : decode (hs_code 344) 46 = .ok (.ldiv, 1) := by decide +kernel
theorem d344_47 : decode (hs_code 344) 47 = .ok (.putfield 7, 3) := by decide +kernel
theorem d344_50 : decode (hs_code 344) 50 = .ok (.iconst 1, 1) := by decide +kernel
theorem d344_51 : decode (hs_code 344) 51 = .ok (.ireturn, 1) := by decide +kernel
theorem d345_0 : decode (hs_code 345) 0 = .ok (.aload_n 0, 1) := by decide +kernel
theorem d345_1 : decode (hs_code 345) 1 = .ok (.iconst 0, 1) := by decide +kernel
theorem d345_2 : decode (hs_code 345) 2 = .ok (.putfield 60, 3) := by decide +kernel
theorem d345_5 : decode (hs_code 345) 5 = .ok (.aload_n 0, 1) := by decide +kernel
theorem d345_6 : decode (hs_code 345) 6 = .ok (.iconst 0, 1) := by decide +kernel
theorem d345_7 : decode (hs_code 345) 7 = .ok (.putfield 63, 3) := by decide +kernel
theorem d345_10 : decode (hs_code 345) 10 = .ok (.aload_n 0, 1) := by decide +kernel
theorem d345_11 : decode (hs_code 345) 11 = .ok (.iload_n 1, 1) := by decide +kernel
theorem d345_12 : decode (hs_code 345) 12 = .ok (.invokevirtual 343, 3) := by decide +kernel
theorem d345_15 : decode (hs_code 345) 15 = .ok (.ifCond .eq 25, 3) := by decide +kernel
theorem d345_18 : decode (hs_code 345) 18 = .ok (.aload_n 0, 1) := by decide +kernel
theorem d345_19 : decode (hs_code 345) 19 = .ok (.aload_n 0, 1) := by decide +kernel
theorem d345_20 : decode (hs_code 345) 20 = .ok (.getfield 35, 3) := by decide +kernel
theorem d345_23 : decode (hs_code 345) 23 = .ok (.bipush 42, 2) := by decide +kernel
theorem d345_25 : decode (hs_code 345) 25 = .ok (.iload_n 1, 1) := by decide +kernel
theorem d345_26 : decode (hs_code 345) 26 = .ok (.iadd, 1) := by decide +kernel
theorem d345_27 : decode (hs_code 345) 27 = .ok (.iaload, 1) := by decide +kernel
theorem d345_28 : decode (hs_code 345) 28 = .ok (.i2l, 1) := by decide +kernel
theorem d345_29 : decode (hs_code 345) 29 = .ok (.aload_n 0, 1) := by decide +kernel
theorem d345_30 : decode (hs_code 345) 30 = .ok (.invokevirtual 337, 3) := by decide +kernel
theorem d345_33 : decode (hs_code 345) 33 = .ok (.i2l, 1) := by decide +kernel
theorem d345_34 : decode (hs_code 345) 34 = .ok (.invokevirtual 462, 3) := by decide +kernel
theorem d345_37 : decode (hs_code 345) 37 = .ok (.goto 8, 3) := by decide +kernel
theorem d345_40 : decode (hs_code 345) 40 = .ok (.aload_n 0, 1) := by decide +kernel
theorem d345_41 : decode (hs_code 345) 41 = .ok (.iconst 2, 1) := by decide +kernel
theorem d345_42 : decode (hs_code 345) 42 = .ok (.invokevirtual 75, 3) := by decide +kernel
theorem d345_45 : decode (hs_code 345) 45 = .ok (.ireturn, 1) := by decide +kernel
theorem d346_0 : decode (hs_code 346) 0 = .ok (.aload_n 0, 1) := by decide +kernel
theorem d346_1 : decode (hs_code 346) 1 = .ok (.iconst 0, 1) := by decide +kernel
theorem d346_2 : decode (hs_code 346) 2 = .ok (.putfield 60, 3) := by decide +kernel
theorem d346_5 : decode (hs_code 346) 5 = .ok (.aload_n 0, 1) := by decide +kernel
theorem d346_6 : decode (hs_code 346) 6 = .ok (.iconst 0, 1) := by decide +kernel
theorem d346_7 : decode (hs_code 346) 7 = .ok (.putfield 63, 3) := by decide +kernel
theorem d346_10 : decode (hs_code 346) 10 = .ok (.iload_n 1, 1) := by decide +kernel
theorem d346_11 : decode (hs_code 346) 11 = .ok (.i2l, 1) := by decide +kernel
theorem d346_12 : decode (hs_code 346) 12 = .ok (.lconst 0, 1) := by decide +kernel
theorem d346_13 : decode (hs_code 346) 13 = .ok (.ldc2_w 517, 3) := by decide +kernel
theorem d346_16 : decode (hs_code 346) 16 = .ok (.invokestatic 95, 3) := by decide +kernel
theorem d346_19 : decode (hs_code 346) 19 = .ok (.ifCond .ne 9, 3) := by decide +kernel
theorem d346_22 : decode (hs_code 346) 22 = .ok (.aload_n 0, 1) := by decide +kernel
theorem d346_23 : decode (hs_code 346) 23 = .ok (.iconst 5, 1) := by decide +kernel
theorem d346_24 : decode (hs_code 346) 24 = .ok (.invokevirtual 322, 3) := by decide +kernel
theorem d346_27 : decode (hs_code 346) 27 = .ok (.ireturn, 1) := by decide +kernel
theorem d346_28 : decode (hs_code 346) 28 = .ok (.aload_n 0, 1) := by decide +kernel
theorem d346_29 : decode (hs_code 346) 29 = .ok (.getfield 35, 3) := by decide +kernel
theorem d346_32 : decode (hs_code 346) 32 = .ok (.bipush 127, 2) := by decide +kernel
theorem d346_34 : decode (hs_code 346) 34 = .ok (.iaload, 1) := by decide +kernel
theorem d346_35 : decode (hs_code 346) 35 = .ok (.ifCond .ne 10, 3) := by decide +kernel
theorem d346_38 : decode (hs_code 346) 38 = .ok (.aload_n 0, 1) := by decide +kernel
theorem d346_39 : decode (hs_code 346) 39 = .ok (.bipush 8, 2) := by decide +kernel
theorem d346_41 : decode (hs_code 346) 41 = .ok (.invokevirtual 322, 3) := by decide +kernel
theorem d346_44 : decode (hs_code 346) 44 = .ok (.ireturn, 1) := by decide +kernel
theorem d346_45 : decode (hs_code 346) 45 = .ok (.aload_n 0, 1) := by decide +kernel
theorem d346_46 : decode (hs_code 346) 46 = .ok (.iload_n 1, 1) := by decide +kernel
theorem d346_47 : decode (hs_code 346) 47 = .ok (.invokevirtual 519, 3) := by decide +kernel
theorem d346_50 : decode (hs_code 346) 50 = .ok (.aload_n 0, 1) := by decide +kernel
theorem d346_51 : decode (hs_code 346) 51 = .ok (.getfield 53, 3) := by decide +kernel
theorem d346_54 : decode (hs_code 346) 54 = .ok (.iconst 0, 1) := by decide +kernel
theorem d346_55 : decode (hs_code 346) 55 = .ok (.aload_n 0, 1) := by decide +kernel
theorem d346_56 : decode (hs_code 346) 56 = .ok (.getfield 502, 3) := by decide +kernel
theorem d346_59 : decode (hs_code 346) 59 = .ok (.iastore, 1) := by decide +kernel
theorem d346_60 : decode (hs_code 346) 60 = .ok (.aload_n 0, 1) := by decide +kernel
theorem d346_61 : decode (hs_code 346) 61 = .ok (.getfield 53, 3) := by decide +kernel
theorem d346_64 : decode (hs_code 346) 64 = .ok (.iconst 1, 1) := by decide +kernel
theorem d346_65 : decode (hs_code 346) 65 = .ok (.aload_n 0, 1) := by decide +kernel
theorem d346_66 : decode (hs_code 346) 66 = .ok (.getfield 470, 3) := by decide +kernel
theorem d346_69 : decode (hs_code 346) 69 = .ok (.iastore, 1) := by decide +kernel
theorem d346_70 : decode (hs_code 346) 70 = .ok (.aload_n 0, 1) := by decide +kernel
theorem d346_71 : decode (hs_code 346) 71 = .ok (.getfield 53, 3) := by decide +kernel
theorem d346_74 : decode (hs_code 346) 74 = .ok (.iconst 2, 1) := by decide +kernel
theorem d346_75 : decode (hs_code 346) 75 = .ok (.aload_n 0, 1) := by decide +kernel
theorem d346_76 : decode (hs_code 346) 76 = .ok (.getfield 473, 3) := by decide +kernel
theorem d346_79 : decode (hs_code 346) 79 = .ok (.iastore, 1) := by decide +kernel
theorem d346_80 : decode (hs_code 346) 80 = .ok (.aload_n 0, 1) := by decide +kernel
theorem d346_81 : decode (hs_code 346) 81 = .ok (.getfield 53, 3) := by decide +kernel
theorem d346_84 : decode (hs_code 346) 84 = .ok (.iconst 3, 1) := by decide +kernel
theorem d346_85 : decode (hs_code 346) 85 = .ok (.aload_n 0, 1) := by decide +kernel
theorem d346_86 : decode (hs_code 346) 86 = .ok (.getfield 476, 3) := by decide +kernel
theorem d346_89 : decode (hs_code 346) 89 = .ok (.iastore, 1) := by decide +kernel
theorem d346_90 : decode (hs_code 346) 90 = .ok (.aload_n 0, 1) := by decide +kernel
theorem d346_91 : decode (hs_code 346) 91 = .ok (.getfield 53, 3) := by decide +kernel
theorem d346_94 : decode (hs_code 346) 94 = .ok (.iconst 4, 1) := by decide +kernel
theorem d346_95 : decode (hs_code 346) 95 = .ok (.aload_n 0, 1) := by decide +kernel
theorem d346_96 : decode (hs_code 346) 96 = .ok (.getfield 499, 3) := by decide +kernel
theorem d346_99 : decode (hs_code 346) 99 = .ok (.iastore, 1) := by decide +kernel
theorem d346_100 : decode (hs_code 346) 100 = .ok (.aload_n 0, 1) := by decide +kernel
theorem d346_101 : decode (hs_code 346) 101 = .ok (.iconst 1, 1) := by decide +kernel
theorem d346_102 : decode (hs_code 346) 102 = .ok (.putfield 522, 3) := by decide +kernel
theorem d346_105 : decode (hs_code 346) 105 = .ok (.aload_n 0, 1) := by decide +kernel
theorem d346_106 : decode (hs_code 346) 106 = .ok (.getfield 492, 3) := by decide +kernel
theorem d346_109 : decode (hs_code 346) 109 = .ok (.ireturn, 1) := by decide +kernel
theorem d347_0 : decode (hs_code 347) 0 = .ok (.aload_n 0, 1) := by decide +kernel
theorem d347_1 : decode (hs_code 347) 1 = .ok (.iload_n 1, 1) := by decide +kernel
theorem d347_2 : decode (hs_code 347) 2 = .ok (.putfield 466, 3) := by decide +kernel
theorem d347_5 : decode (hs_code 347) 5 = .ok (.aload_n 0, 1) := by decide +kernel
theorem d347_6 : decode (hs_code 347) 6 = .ok (.iconst 0, 1) := by decide +kernel
theorem d347_7 : decode (hs_code 347) 7 = .ok (.putfield 492, 3) := by decide +kernel
theorem d347_10 : decode (hs_code 347) 10 = .ok (.aload_n 0, 1) := by decide +kernel
theorem d347_11 : decode (hs_code 347) 11 = .ok (.iconst 0, 1) := by decide +kernel
theorem d347_12 : decode (hs_code 347) 12 = .ok (.putfield 502, 3) := by decide +kernel
theorem d347_15 : decode (hs_code 347) 15 = .ok (.aload_n 0, 1) := by decide +kernel
theorem d347_16 : decode (hs_code 347) 16 = .ok (.iconst 0, 1) := by decide +kernel
theorem d347_17 : decode (hs_code 347) 17 = .ok (.putfield 470, 3) := by decide +kernel
theorem d347_20 : decode (hs_code 347) 20 = .ok (.aload_n 0, 1) := by decide +kernel
theorem d347_21 : decode (hs_code 347) 21 = .ok (.iconst 0, 1) := by decide +kernel
theorem d347_22 : decode (hs_code 347) 22 = .ok (.putfield 473, 3) := by decide +kernel
theorem d347_25 : decode (hs_code 347) 25 = .ok (.aload_n 0, 1) := by decide +kernel
theorem d347_26 : decode (hs_code 347) 26 = .ok (.iconst 0, 1) := by decide +kernel
theorem d347_27 : decode (hs_code 347) 27 = .ok (.putfield 476, 3) := by decide +kernel
theorem d347_30 : decode (hs_code 347) 30 = .ok (.aload_n 0, 1) := by decide +kernel
theorem d347_31 : decode (hs_code 347) 31 = .ok (.iconst 0, 1) := by decide +kernel
theorem d347_32 : decode (hs_code 347) 32 = .ok (.putfield 499, 3) := by decide +kernel
theorem d347_35 : decode (hs_code 347) 35 = .ok (.aload_n 0, 1) := by decide +kernel
theorem d347_36 : decode (hs_code 347) 36 = .ok (.iconst 0, 1) := by decide +kernel
theorem d347_37 : decode (hs_code 347) 37 = .ok (.putfield 495, 3) := by decide +kernel
theorem d347_40 : decode (hs_code 347) 40 = .ok (.aload_n 0, 1) := by decide +kernel
theorem d347_41 : decode (hs_code 347) 41 = .ok (.iconst 0, 1) := by decide +kernel
theorem d347_42 : decode (hs_code 347) 42 = .ok (.aload_n 0, 1) := by decide +kernel
theorem d347_43 : decode (hs_code 347) 43 = .ok (.getfield 35, 3) := by decide +kernel
theorem d347_46 : decode (hs_code 347) 46 = .ok (.sipush 128, 3) := by decide +kernel
theorem d347_49 : decode (hs_code 347) 49 = .ok (.iaload, 1) := by decide +kernel
theorem d347_50 : decode (hs_code 347) 50 = .ok (.invokevirtual 511, 3) := by decide +kernel
theorem d347_53 : decode (hs_code 347) 53 = .ok (.return_, 1) := by decide +kernel
theorem d348_0 : decode (hs_code 348) 0 = .ok (.iload_n 1, 1) := by decide +kernel
theorem d348_1 : decode (hs_code 348) 1 = .ok (.istore_n 3, 1) := by decide +kernel
theorem d348_2 : decode (hs_code 348) 2 = .ok (.iload_n 3, 1) := by decide +kernel
theorem d348_3 : decode (hs_code 348) 3 = .ok (.iload_n 2, 1) := by decide +kernel
theorem d348_4 : decode (hs_code 348) 4 = .ok (.if_icmp .ge 35, 3) := by decide +kernel
theorem d348_7 : decode (hs_code 348) 7 = .ok (.aload_n 0, 1) := by decide +kernel
theorem d348_8 : decode (hs_code 348) 8 = .ok (.getfield 495, 3) := by decide +kernel
theorem d348_11 : decode (hs_code 348) 11 = .ok (.ifCond .ne 28, 3) := by decide +kernel
theorem d348_14 : decode (hs_code 348) 14 = .ok (.aload_n 0, 1) := by decide +kernel
theorem d348_15 : decode (hs_code 348) 15 = .ok (.iload_n 3, 1) := by decide +kernel
theorem d348_16 : decode (hs_code 348) 16 = .ok (.invokevirtual 514, 3) := by decide +kernel
theorem d348_19 : decode (hs_code 348) 19 = .ok (.aload_n 0, 1) := by decide +kernel
theorem d348_20 : decode (hs_code 348) 20 = .ok (.getfield 35, 3) := by decide +kernel
theorem d348_23 : decode (hs_code 348) 23 = .ok (.sipush 129, 3) := by decide +kernel
theorem d348_26 : decode (hs_code 348) 26 = .ok (.bipush 9, 2) := by decide +kernel
theorem d348_28 : decode (hs_code 348) 28 = .ok (.iload_n 3, 1) := by decide +kernel
theorem d348_29 : decode (hs_code 348) 29 = .ok (.imul, 1) := by decide +kernel
theorem d348_30 : decode (hs_code 348) 30 = .ok (.iadd, 1) := by decide +kernel
theorem d348_31 : decode (hs_code 348) 31 = .ok (.bipush 8, 2) := by decide +kernel
theorem d348_33 : decode (hs_code 348) 33 = .ok (.iadd, 1) := by decide +kernel
theorem d348_34 : decode (hs_code 348) 34 = .ok (.iaload, 1) := by decide +kernel
theorem d348_35 : decode (hs_code 348) 35 = .ok (.istore_n 3, 1) := by decide +kernel
theorem d348_36 : decode (hs_code 348) 36 = .ok (.goto (-34), 3) := by decide +kernel
theorem d348_39 : decode (hs_code 348) 39 = .ok (.return_, 1) := by decide +kernel
theorem f302_35 : hs_fld (hs_own 302) 35 = some (11, 20, 3, 1) := by decide +kernel
theorem f303_35 : hs_fld (hs_own 303) 35 = some (11, 20, 3, 1) := by decide +kernel
theorem f303_60 : hs_fld (hs_own 303) 60 = some (11, 1, 0, 0) := by decide +kernel
theorem f303_63 : hs_fld (hs_own 303) 63 = some (11, 0, 0, 0) := by decide +kernel
theorem f304_60 : hs_fld (hs_own 304) 60 = some (11, 1, 0, 0) := by decide +kernel
theorem f304_63 : hs_fld (hs_own 304) 63 = some (11, 0, 0, 0) := by decide +kernel
theorem f305_60 : hs_fld (hs_own 305) 60 = some (11, 1, 0, 0) := by decide +kernel
theorem f305_63 : hs_fld (hs_own 305) 63 = some (11, 0, 0, 0) := by decide +kernel
theorem f306_35 : hs_fld (hs_own 306) 35 = some (11, 20, 3, 1) := by decide +kernel
theorem f306_38 : hs_fld (hs_own 306) 38 = some (11, 21, 3, 1) := by decide +kernel
theorem f307_35 : hs_fld (hs_own 307) 35 = some (11, 20, 3, 1) := by decide +kernel
theorem f307_38 : hs_fld (hs_own 307) 38 = some (11, 21, 3, 1) := by decide +kernel
theorem f308_35 : hs_fld (hs_own 308) 35 = some (11, 20, 3, 1) := by decide +kernel
theorem f308_60 : hs_fld (hs_own 308) 60 = some (11, 1, 0, 0) := by decide +kernel
theorem f308_63 : hs_fld (hs_own 308) 63 = some (11, 0, 0, 0) := by decide +kernel
theorem f309_60 : hs_fld (hs_own 309) 60 = some (11, 1, 0, 0) := by decide +kernel
theorem f309_63 : hs_fld (hs_own 309) 63 = some (11, 0, 0, 0) := by decide +kernel
theorem f311_35 : hs_fld (hs_own 311) 35 = some (11, 20, 3, 1) := by decide +kernel
theorem f312_35 : hs_fld (hs_own 312) 35 = some (11, 20, 3, 1) := by decide +kernel
theorem f312_60 : hs_fld (hs_own 312) 60 = some (11, 1, 0, 0) := by decide +kernel
theorem f312_63 : hs_fld (hs_own 312) 63 = some (11, 0, 0, 0) := by decide +kernel
theorem f313_60 : hs_fld (hs_own 313) 60 = some (11, 1, 0, 0) := by decide +kernel
theorem f313_63 : hs_fld (hs_own 313) 63 = some (11, 0, 0, 0) := by decide +kernel
theorem f315_35 : hs_fld (hs_own 315) 35 = some (11, 20, 3, 1) := by decide +kernel
theorem f316_60 : hs_fld (hs_own 316) 60 = some (11, 1, 0, 0) := by decide +kernel
theorem f316_63 : hs_fld (hs_own 316) 63 = some (11, 0, 0, 0) := by decide +kernel
theorem f317_35 : hs_fld (hs_own 317) 35 = some (11, 20, 3, 1) := by decide +kernel
theorem f317_60 : hs_fld (hs_own 317) 60 = some (11, 1, 0, 0) := by decide +kernel
theorem f317_63 : hs_fld (hs_own 317) 63 = some (11, 0, 0, 0) := by decide +kernel
theorem f318_60 : hs_fld (hs_own 318) 60 = some (11, 1, 0, 0) := by decide +kernel
theorem f318_63 : hs_fld (hs_own 318) 63 = some (11, 0, 0, 0) := by decide +kernel
theorem f319_35 : hs_fld (hs_own 319) 35 = some (11, 20, 3, 1) := by decide +kernel
theorem f320_35 : hs_fld (hs_own 320) 35 = some (11, 20, 3, 1) := by decide +kernel
theorem f320_60 : hs_fld (hs_own 320) 60 = some (11, 1, 0, 0) := by decide +kernel
theorem f320_63 : hs_fld (hs_own 320) 63 = some (11, 0, 0, 0) := by decide +kernel
theorem f322_60 : hs_fld (hs_own 322) 60 = some (11, 1, 0, 0) := by decide +kernel
theorem f322_63 : hs_fld (hs_own 322) 63 = some (11, 0, 0, 0) := by decide +kernel
theorem f323_35 : hs_fld (hs_own 323) 35 = some (11, 20, 3, 1) := by decide +kernel
theorem f323_60 : hs_fld (hs_own 323) 60 = some (11, 1, 0, 0) := by decide +kernel
theorem f323_63 : hs_fld (hs_own 323) 63 = some (11, 0, 0, 0) := by decide +kernel
theorem f324_60 : hs_fld (hs_own 324) 60 = some (11, 1, 0, 0) := by decide +kernel
theorem f324_63 : hs_fld (hs_own 324) 63 = some (11, 0, 0, 0) := by decide +kernel
theorem f325_35 : hs_fld (hs_own 325) 35 = some (11, 20, 3, 1) := by decide +kernel
theorem f326_35 : hs_fld (hs_own 326) 35 = some (11, 20, 3, 1) := by decide +kernel
theorem f327_60 : hs_fld (hs_own 327) 60 = some (11, 1, 0, 0) := by decide +kernel
theorem f327_63 : hs_fld (hs_own 327) 63 = some (11, 0, 0, 0) := by decide +kernel
theorem f328_60 : hs_fld (hs_own 328) 60 = some (11, 1, 0, 0) := by decide +kernel
theorem f328_63 : hs_fld (hs_own 328) 63 = some (11, 0, 0, 0) := by decide +kernel
theorem f329_35 : hs_fld (hs_own 329) 35 = some (11, 20, 3, 1) := by decide +kernel
theorem f330_35 : hs_fld (hs_own 330) 35 = some (11, 20, 3, 1) := by decide +kernel
theorem f331_60 : hs_fld (hs_own 331) 60 = some (11, 1, 0, 0) := by decide +kernel
theorem f331_63 : hs_fld (hs_own 331) 63 = some (11, 0, 0, 0) := by decide +kernel
theorem f332_17 : hs_fld (hs_own 332) 17 = some (11, 5, 3, 1) := by decide +kernel
theorem f332_35 : hs_fld (hs_own 332) 35 = some (11, 20, 3, 1) := by decide +kernel
theorem f332_60 : hs_fld (hs_own 332) 60 = some (11, 1, 0, 0) := by decide +kernel
theorem f332_63 : hs_fld (hs_own 332) 63 = some (11, 0, 0, 0) := by decide +kernel
theorem f333_20 : hs_fld (hs_own 333) 20 = some (11, 6, 3, 1) := by decide +kernel
theorem f334_35 : hs_fld (hs_own 334) 35 = some (11, 20, 3, 1) := by decide +kernel
theorem f335_60 : hs_fld (hs_own 335) 60 = some (11, 1, 0, 0) := by decide +kernel
theorem f335_63 : hs_fld (hs_own 335) 63 = some (11, 0, 0, 0) := by decide +kernel
theorem f336_35 : hs_fld (hs_own 336) 35 = some (11, 20, 3, 1) := by decide +kernel
theorem f337_60 : hs_fld (hs_own 337) 60 = some (11, 1, 0, 0) := by decide +kernel
theorem f337_63 : hs_fld (hs_own 337) 63 = some (11, 0, 0, 0) := by decide +kernel
theorem f338_35 : hs_fld (hs_own 338) 35 = some (11, 20, 3, 1) := by decide +kernel
theorem f338_60 : hs_fld (hs_own 338) 60 = some (11, 1, 0, 0) := by decide +kernel
theorem f338_63 : hs_fld (hs_own 338) 63 = some (11, 0, 0, 0) := by decide +kernel
theorem f339_35 : hs_fld (hs_own 339) 35 = some (11, 20, 3, 1) := by decide +kernel
theorem f340_60 : hs_fld (hs_own 340) 60 = some (11, 1, 0, 0) := by decide +kernel
theorem f340_63 : hs_fld (hs_own 340) 63 = some (11, 0, 0, 0) := by decide +kernel
theorem f341_35 : hs_fld (hs_own 341) 35 = some (11, 20, 3, 1) := by decide +kernel
theorem f341_47 : hs_fld (hs_own 341) 47 = some (11, 27, 3, 1) := by decide +kernel
theorem f341_457 : hs_fld (hs_own 341) 457 = some (11, 28, 0, 0) := by decide +kernel
theorem f342_35 : hs_fld (hs_own 342) 35 = some (11, 20, 3, 1) := by decide +kernel
theorem f342_60 : hs_fld (hs_own 342) 60 = some (11, 1, 0, 0) := by decide +kernel
theorem f342_63 : hs_fld (hs_own 342) 63 = some (11, 0, 0, 0) := by decide +kernel
theorem f342_457 : hs_fld (hs_own 342) 457 = some (11, 28, 0, 0) := by decide +kernel
theorem f343_35 : hs_fld (hs_own 343) 35 = some (11, 20, 3, 1) := by decide +kernel
theorem f343_50 : hs_fld (hs_own 343) 50 = some (11, 29, 3, 1) := by decide +kernel
theorem f343_60 : hs_fld (hs_own 343) 60 = some (11, 1, 0, 0) := by decide +kernel
theorem f343_63 : hs_fld (hs_own 343) 63 = some (11, 0, 0, 0) := by decide +kernel
theorem f344_7 : hs_fld (hs_own 344) 7 = some (11, 3, 2, 0) := by decide +kernel
theorem f344_66 : hs_fld (hs_own 344) 66 = some (11, 2, 2, 0) := by decide +kernel
theorem f345_35 : hs_fld (hs_own 345) 35 = some (11, 20, 3, 1) := by decide +kernel
theorem f345_60 : hs_fld (hs_own 345) 60 = some (11, 1, 0, 0) := by decide +kernel
theorem f345_63 : hs_fld (hs_own 345) 63 = some (11, 0, 0, 0) := by decide +kernel
theorem f346_35 : hs_fld (hs_own 346) 35 = some (11, 20, 3, 1) := by decide +kernel
theorem f346_53 : hs_fld (hs_own 346) 53 = some (11, 30, 3, 1) := by decide +kernel
theorem f346_60 : hs_fld (hs_own 346) 60 = some (11, 1, 0, 0) := by decide +kernel
theorem f346_63 : hs_fld (hs_own 346) 63 = some (11, 0, 0, 0) := by decide +kernel
theorem f346_470 : hs_fld (hs_own 346) 470 = some (11, 36, 0, 0) := by decide +kernel
theorem f346_473 : hs_fld (hs_own 346) 473 = some (11, 37, 0, 0) := by decide +kernel
theorem f346_476 : hs_fld (hs_own 346) 476 = some (11, 38, 0, 0) := by decide +kernel
theorem f346_492 : hs_fld (hs_own 346) 492 = some (11, 34, 0, 0) := by decide +kernel
theorem f346_499 : hs_fld (hs_own 346) 499 = some (11, 39, 0, 0) := by decide +kernel
theorem f346_502 : hs_fld (hs_own 346) 502 = some (11, 35, 0, 0) := by decide +kernel
theorem f346_522 : hs_fld (hs_own 346) 522 = some (11, 31, 1, 0) := by decide +kernel
theorem f347_35 : hs_fld (hs_own 347) 35 = some (11, 20, 3, 1) := by decide +kernel
theorem f347_466 : hs_fld (hs_own 347) 466 = some (11, 33, 0, 0) := by decide +kernel
theorem f347_470 : hs_fld (hs_own 347) 470 = some (11, 36, 0, 0) := by decide +kernel
theorem f347_473 : hs_fld (hs_own 347) 473 = some (11, 37, 0, 0) := by decide +kernel
theorem f347_476 : hs_fld (hs_own 347) 476 = some (11, 38, 0, 0) := by decide +kernel
theorem f347_492 : hs_fld (hs_own 347) 492 = some (11, 34, 0, 0) := by decide +kernel
theorem f347_495 : hs_fld (hs_own 347) 495 = some (11, 32, 1, 0) := by decide +kernel
theorem f347_499 : hs_fld (hs_own 347) 499 = some (11, 39, 0, 0) := by decide +kernel
theorem f347_502 : hs_fld (hs_own 347) 502 = some (11, 35, 0, 0) := by decide +kernel
theorem f348_35 : hs_fld (hs_own 348) 35 = some (11, 20, 3, 1) := by decide +kernel
theorem f348_495 : hs_fld (hs_own 348) 495 = some (11, 32, 1, 0) := by decide +kernel
theorem rt302 : hs_ret 302 = (some .boolean) := by decide +kernel
theorem rt303 : hs_ret 303 = (some .int) := by decide +kernel
theorem rt304 : hs_ret 304 = (some .int) := by decide +kernel
theorem rt305 : hs_ret 305 = (some .int) := by decide +kernel
theorem rt306 : hs_ret 306 = none := by decide +kernel
theorem rt307 : hs_ret 307 = none := by decide +kernel
theorem rt308 : hs_ret 308 = (some .int) := by decide +kernel
theorem rt309 : hs_ret 309 = (some .int) := by decide +kernel
theorem rt310 : hs_ret 310 = (some .int) := by decide +kernel
theorem rt311 : hs_ret 311 = (some .int) := by decide +kernel
theorem rt312 : hs_ret 312 = (some .int) := by decide +kernel
theorem rt313 : hs_ret 313 = (some .int) := by decide +kernel
theorem rt314 : hs_ret 314 = (some .boolean) := by decide +kernel
theorem rt315 : hs_ret 315 = (some .int) := by decide +kernel
theorem rt316 : hs_ret 316 = (some .int) := by decide +kernel
theorem rt317 : hs_ret 317 = (some .int) := by decide +kernel
theorem rt318 : hs_ret 318 = (some .int) := by decide +kernel
theorem rt319 : hs_ret 319 = (some .boolean) := by decide +kernel
theorem rt320 : hs_ret 320 = (some .int) := by decide +kernel
theorem rt321 : hs_ret 321 = (some .int) := by decide +kernel
theorem rt322 : hs_ret 322 = (some .int) := by decide +kernel
theorem rt323 : hs_ret 323 = (some .int) := by decide +kernel
theorem rt324 : hs_ret 324 = (some .int) := by decide +kernel
theorem rt325 : hs_ret 325 = (some .int) := by decide +kernel
theorem rt326 : hs_ret 326 = (some .int) := by decide +kernel
theorem rt327 : hs_ret 327 = (some .int) := by decide +kernel
theorem rt328 : hs_ret 328 = (some .int) := by decide +kernel
theorem rt329 : hs_ret 329 = (some .int) := by decide +kernel
theorem rt330 : hs_ret 330 = (some .int) := by decide +kernel
theorem rt331 : hs_ret 331 = (some .int) := by decide +kernel
theorem rt332 : hs_ret 332 = (some .int) := by decide +kernel
theorem rt333 : hs_ret 333 = (some .long) := by decide +kernel
theorem rt334 : hs_ret 334 = (some .int) := by decide +kernel
theorem rt335 : hs_ret 335 = (some .int) := by decide +kernel
theorem rt336 : hs_ret 336 = (some .int) := by decide +kernel
theorem rt337 : hs_ret 337 = (some .int) := by decide +kernel
theorem rt338 : hs_ret 338 = (some .int) := by decide +kernel
theorem rt339 : hs_ret 339 = (some .boolean) := by decide +kernel
theorem rt340 : hs_ret 340 = (some .int) := by decide +kernel
theorem rt341 : hs_ret 341 = (some .int) := by decide +kernel
theorem rt342 : hs_ret 342 = (some .int) := by decide +kernel
theorem rt343 : hs_ret 343 = (some .boolean) := by decide +kernel
theorem rt344 : hs_ret 344 = (some .boolean) := by decide +kernel
theorem rt345 : hs_ret 345 = (some .boolean) := by decide +kernel
theorem rt346 : hs_ret 346 = (some .int) := by decide +kernel
theorem rt347 : hs_ret 347 = none := by decide +kernel
theorem rt348 : hs_ret 348 = none := by decide +kernel
section BB
variable {scr : List Int32} {d : Nat} {h : hs_H} {S : List hs_S} {I : Nat → Nat → Int32} {L : Nat → Nat → Int64} {R : Nat → Nat → Nat}
theorem e302 {t0 : Nat} {x1 : Int32} {x2 : Int32} : hs_C scr d 302 [.ref t0, .int x1, .int x2] h = hs_R scr d 302 0 [some (.ref t0), some (.int x1), some (.int x2)] [] h := by rw [hs_C, mL302]; rfl
theorem b302_0 {t0 : Nat} {x1 x2 : Int32} (o_t0 : ok11 S R t0) : hs_R scr (d + 1) 302 0 [some (.ref t0), some (.int x1), some (.int x2)] [] (S, I, L, R) = ((hs_C scr d 279 [.ref t0, .int x1, .int x2] (S, I, L, R)).bind fun o => hs_R scr (d + 1) 302 6 [some (.ref t0), some (.int x1), some (.int x2)] (o.1.toList ++ []) o.2) := Eq.trans (r_al_n d302_0 rfl) (Eq.trans (r_il_n d302_1 rfl) (Eq.trans (r_il_n d302_2 rfl) (r_cvE (as := [.int x1, .int x2]) (r := []) d302_3 c302_349 ow279 o_t0.2.1 np279.symm rfl (hs_fitE mL279 (Nat.le_of_ble_eq_true rfl)))))
theorem b302_6 {t0 : Nat} {x1 x2 s0 : Int32} (o_t0 : ok11 S R t0) : hs_R scr (d + 1) 302 6 [some (.ref t0), some (.int x1), some (.int x2)] [.int s0] (S, I, L, R) = (if s0 = 3 then hs_R scr (d + 1) 302 28 [some (.ref t0), some (.int x1), some (.int x2)] [] (S, I, L, R) else ((hs_C scr d 279 [.ref t0, .int x1, .int x2] (S, I, L, R)).bind fun o => hs_R scr (d + 1) 302 16 [some (.ref t0), some (.int x1), some (.int x2)] (o.1.toList ++ []) o.2)) := Eq.trans (r_ic d302_6 kI_3) (Eq.trans (r_ceq d302_7 rfl) (q_ite (rfl) (Eq.trans (r_al_n d302_10 rfl) (Eq.trans (r_il_n d302_11 rfl) (Eq.trans (r_il_n d302_12 rfl) (r_cvE (as := [.int x1, .int x2]) (r := []) d302_13 c302_349 ow279 o_t0.2.1 np279.symm rfl (hs_fitE mL279 (Nat.le_of_ble_eq_true rfl))))))))
theorem b302_16 {t0 : Nat} {x1 x2 s0 : Int32} (o_t0 : ok11 S R t0) : hs_R scr d 302 16 [some (.ref t0), some (.int x1), some (.int x2)] [.int s0] (S, I, L, R) = (if hs_ib ((26 : Int32) + x2) 1995 = true then (if s0 = (I (t0 + 5) (Int32.toNatClampNeg ((26 : Int32) + x2))) then hs_R scr d 302 28 [some (.ref t0), some (.int x1), some (.int x2)] [] (S, I, L, R) else hs_R scr d 302 33 [some (.ref t0), some (.int x1), some (.int x2)] [.int 0] (S, I, L, R)) else none) := Eq.trans (r_al_n d302_16 rfl) (Eq.trans (r_getRe d302_17 f302_35 o_t0.2.1 (o_t0.2.2.2.2.2.2.2.2.2.2.1) (Nat.le_trans o_t0.1 (Nat.le_add_right _ _))) (Eq.trans (r_bp d302_20 kB_26) (Eq.trans (r_il_n d302_22 rfl) (Eq.trans (r_iadd d302_23) (Eq.trans (r_iald d302_24 (o_t0.2.2.2.2.2.2.2.2.2.2.2.1)) (q_ite (Eq.trans (r_cne d302_25 rfl) (q_ite (rfl) (Eq.trans (r_ic d302_32 kI_0) (rfl)))) rfl))))))
theorem b302_28 {t0 : Nat} {x1 x2 : Int32}  : hs_R scr d 302 28 [some (.ref t0), some (.int x1), some (.int x2)] [] (S, I, L, R) = hs_R scr d 302 33 [some (.ref t0), some (.int x1), some (.int x2)] [.int 1] (S, I, L, R) := Eq.trans (r_ic d302_28 kI_1) (Eq.trans (r_goto d302_29 rfl) (rfl))
theorem b302_33 {t0 : Nat} {x1 x2 s0 : Int32}  : hs_R scr d 302 33 [some (.ref t0), some (.int x1), some (.int x2)] [.int s0] (S, I, L, R) = (if s0 = 0 ∨ s0 = 1 then some (some (.int s0), (S, I, L, R)) else none) := r_rz d302_33 rt302
theorem e303 {t0 : Nat} : hs_C scr d 303 [.ref t0] h = hs_R scr d 303 0 [some (.ref t0), none] [] h := by rw [hs_C, mL303]; rfl
theorem b303_0 {t0 : Nat} (o_t0 : ok11 S R t0) : hs_R scr d 303 0 [some (.ref t0), none] [] (S, I, L, R) = hs_R scr d 303 12 [some (.ref t0), some (.int 0)] [] (S, (hs_u (hs_u I t0 1 0) t0 0 0), L, R) := Eq.trans (r_al_n d303_0 rfl) (Eq.trans (r_ic d303_1 kI_0) (Eq.trans (r_putI d303_2 f303_60 o_t0.2.1) (Eq.trans (r_al_n d303_5 rfl) (Eq.trans (r_ic d303_6 kI_0) (Eq.trans (r_putI d303_7 f303_63 o_t0.2.1) (Eq.trans (r_ic d303_10 kI_0) (Eq.trans (r_is_n (loc' := [some (.ref t0), some (.int 0)]) d303_11 rfl) (rfl))))))))
theorem b303_12 {t0 : Nat} {x1 : Int32} (o_t0 : ok11 S R t0) : hs_R scr (d + 1) 303 12 [some (.ref t0), some (.int x1)] [] (S, I, L, R) = (if (I (t0 + 5) 3) ≤ x1 then ((hs_C scr d 265 [.ref t0, .int 8] (S, I, L, R)).bind fun o => hs_R scr (d + 1) 303 44 [some (.ref t0), some (.int x1)] (o.1.toList ++ []) o.2) else ((hs_C scr d 301 [.ref t0, .int x1] (S, I, L, R)).bind fun o => hs_R scr (d + 1) 303 27 [some (.ref t0), some (.int x1)] (o.1.toList ++ []) o.2)) := Eq.trans (r_il_n d303_12 rfl) (Eq.trans (r_al_n d303_13 rfl) (Eq.trans (r_getRe d303_14 f303_35 o_t0.2.1 (o_t0.2.2.2.2.2.2.2.2.2.2.1) (Nat.le_trans o_t0.1 (Nat.le_add_right _ _))) (Eq.trans (r_ic d303_17 kI_3) (Eq.trans ((r_ialdC d303_18 (o_t0.2.2.2.2.2.2.2.2.2.2.2.1) ib_3_1995 tn_3)) (Eq.trans (r_cge d303_19 rfl) (q_ite (Eq.trans (r_al_n d303_38 rfl) (Eq.trans (r_bp d303_39 kB_8) (r_cvE (as := [.int 8]) (r := []) d303_41 c303_322 ow265 o_t0.2.1 np265.symm rfl (hs_fitE mL265 (Nat.le_of_ble_eq_true rfl))))) (Eq.trans (r_al_n d303_22 rfl) (Eq.trans (r_il_n d303_23 rfl) (r_cvE (as := [.int x1]) (r := []) d303_24 c303_394 ow301 o_t0.2.1 np301.symm rfl (hs_fitE mL301 (Nat.le_of_ble_eq_true rfl)))))))))))
theorem b303_27 {t0 : Nat} {x1 s0 : Int32}  : hs_R scr d 303 27 [some (.ref t0), some (.int x1)] [.int s0] (S, I, L, R) = (if s0 = 0 then some (some (.int x1), (S, I, L, R)) else hs_R scr d 303 12 [some (.ref t0), some (.int (x1 + 1))] [] (S, I, L, R)) := Eq.trans (r_zne d303_27 rfl) (q_ite (Eq.trans (r_il_n d303_30 rfl) (r_ri d303_31 rt303)) (Eq.trans (r_inc (loc' := [some (.ref t0), some (.int (x1 + 1))]) d303_32 kI_1 rfl rfl) (Eq.trans (r_goto d303_35 rfl) (rfl))))
theorem b303_44 {t0 : Nat} {x1 s0 : Int32}  : hs_R scr d 303 44 [some (.ref t0), some (.int x1)] [.int s0] (S, I, L, R) = some (some (.int s0), (S, I, L, R)) := r_ri d303_44 rt303
theorem e304 {t0 : Nat} {x1 : Int32} : hs_C scr d 304 [.ref t0, .int x1] h = hs_R scr d 304 0 [some (.ref t0), some (.int x1)] [] h := by rw [hs_C, mL304]; rfl
theorem b304_0 {t0 : Nat} {x1 : Int32} (o_t0 : ok11 S R t0) : hs_R scr (d + 1) 304 0 [some (.ref t0), some (.int x1)] [] (S, I, L, R) = ((hs_C scr d 278 [.ref t0, .int x1] (S, (hs_u (hs_u I t0 1 0) t0 0 0), L, R)).bind fun o => hs_R scr (d + 1) 304 15 [some (.ref t0), some (.int x1)] (o.1.toList ++ []) o.2) := Eq.trans (r_al_n d304_0 rfl) (Eq.trans (r_ic d304_1 kI_0) (Eq.trans (r_putI d304_2 f304_60 o_t0.2.1) (Eq.trans (r_al_n d304_5 rfl) (Eq.trans (r_ic d304_6 kI_0) (Eq.trans (r_putI d304_7 f304_63 o_t0.2.1) (Eq.trans (r_al_n d304_10 rfl) (Eq.trans (r_il_n d304_11 rfl) (r_cvE (as := [.int x1]) (r := []) d304_12 c304_346 ow278 o_t0.2.1 np278.symm rfl (hs_fitE mL278 (Nat.le_of_ble_eq_true rfl))))))))))
theorem b304_15 {t0 : Nat} {x1 s0 : Int32} (o_t0 : ok11 S R t0) : hs_R scr (d + 1) 304 15 [some (.ref t0), some (.int x1)] [.int s0] (S, I, L, R) = (if s0 = 0 then ((hs_C scr d 265 [.ref t0, .int 2] (S, I, L, R)).bind fun o => hs_R scr (d + 1) 304 31 [some (.ref t0), some (.int x1)] (o.1.toList ++ []) o.2) else ((hs_C scr d 301 [.ref t0, .int x1] (S, I, L, R)).bind fun o => hs_R scr (d + 1) 304 23 [some (.ref t0), some (.int x1)] (o.1.toList ++ []) o.2)) := Eq.trans (r_zeq d304_15 rfl) (q_ite (Eq.trans (r_al_n d304_26 rfl) (Eq.trans (r_ic d304_27 kI_2) (r_cvE (as := [.int 2]) (r := []) d304_28 c304_322 ow265 o_t0.2.1 np265.symm rfl (hs_fitE mL265 (Nat.le_of_ble_eq_true rfl))))) (Eq.trans (r_al_n d304_18 rfl) (Eq.trans (r_il_n d304_19 rfl) (r_cvE (as := [.int x1]) (r := []) d304_20 c304_394 ow301 o_t0.2.1 np301.symm rfl (hs_fitE mL301 (Nat.le_of_ble_eq_true rfl))))))
theorem b304_23 {t0 : Nat} {x1 s0 : Int32}  : hs_R scr d 304 23 [some (.ref t0), some (.int x1)] [.int s0] (S, I, L, R) = hs_R scr d 304 31 [some (.ref t0), some (.int x1)] [.int s0] (S, I, L, R) := Eq.trans (r_goto d304_23 rfl) (rfl)
theorem b304_31 {t0 : Nat} {x1 s0 : Int32}  : hs_R scr d 304 31 [some (.ref t0), some (.int x1)] [.int s0] (S, I, L, R) = some (some (.int s0), (S, I, L, R)) := r_ri d304_31 rt304
theorem e305 {t0 : Nat} {x1 : Int32} : hs_C scr d 305 [.ref t0, .int x1] h = hs_R scr d 305 0 [some (.ref t0), some (.int x1), none, none] [] h := by rw [hs_C, mL305]; rfl
theorem b305_0 {t0 : Nat} {x1 : Int32} (o_t0 : ok11 S R t0) : hs_R scr (d + 1) 305 0 [some (.ref t0), some (.int x1), none, none] [] (S, I, L, R) = ((hs_C scr d 278 [.ref t0, .int x1] (S, (hs_u (hs_u I t0 1 0) t0 0 0), L, R)).bind fun o => hs_R scr (d + 1) 305 15 [some (.ref t0), some (.int x1), none, none] (o.1.toList ++ []) o.2) := Eq.trans (r_al_n d305_0 rfl) (Eq.trans (r_ic d305_1 kI_0) (Eq.trans (r_putI d305_2 f305_60 o_t0.2.1) (Eq.trans (r_al_n d305_5 rfl) (Eq.trans (r_ic d305_6 kI_0) (Eq.trans (r_putI d305_7 f305_63 o_t0.2.1) (Eq.trans (r_al_n d305_10 rfl) (Eq.trans (r_il_n d305_11 rfl) (r_cvE (as := [.int x1]) (r := []) d305_12 c305_346 ow278 o_t0.2.1 np278.symm rfl (hs_fitE mL278 (Nat.le_of_ble_eq_true rfl))))))))))
theorem b305_15 {t0 : Nat} {x1 s0 : Int32} (o_t0 : ok11 S R t0) : hs_R scr (d + 1) 305 15 [some (.ref t0), some (.int x1), none, none] [.int s0] (S, I, L, R) = (if s0 = 0 then ((hs_C scr d 265 [.ref t0, .int 2] (S, I, L, R)).bind fun o => hs_R scr (d + 1) 305 23 [some (.ref t0), some (.int x1), none, none] (o.1.toList ++ []) o.2) else ((hs_C scr d 306 [.ref t0] (S, I, L, R)).bind fun o => hs_R scr (d + 1) 305 30 [some (.ref t0), some (.int x1), some (.int (-1)), none] (o.1.toList ++ []) o.2)) := Eq.trans (r_zne d305_15 rfl) (q_ite (Eq.trans (r_al_n d305_18 rfl) (Eq.trans (r_ic d305_19 kI_2) (r_cvE (as := [.int 2]) (r := []) d305_20 c305_322 ow265 o_t0.2.1 np265.symm rfl (hs_fitE mL265 (Nat.le_of_ble_eq_true rfl))))) (Eq.trans (r_ic d305_24 kI_m1) (Eq.trans (r_is_n (loc' := [some (.ref t0), some (.int x1), some (.int (-1)), none]) d305_25 rfl) (Eq.trans (r_al_n d305_26 rfl) (r_cvE (as := []) (r := []) d305_27 c305_399 ow306 o_t0.2.1 np306.symm rfl (hs_fitE mL306 (Nat.le_of_ble_eq_true rfl)))))))
theorem b305_23 {t0 : Nat} {x1 s0 : Int32}  : hs_R scr d 305 23 [some (.ref t0), some (.int x1), none, none] [.int s0] (S, I, L, R) = some (some (.int s0), (S, I, L, R)) := r_ri d305_23 rt305
theorem b305_30 {t0 : Nat} {x1 x2 : Int32}  : hs_R scr d 305 30 [some (.ref t0), some (.int x1), some (.int x2), none] [] (S, I, L, R) = hs_R scr d 305 32 [some (.ref t0), some (.int x1), some (.int x2), some (.int 0)] [] (S, I, L, R) := Eq.trans (r_ic d305_30 kI_0) (Eq.trans (r_is_n (loc' := [some (.ref t0), some (.int x1), some (.int x2), some (.int 0)]) d305_31 rfl) (rfl))
theorem b305_32 {t0 : Nat} {x1 x2 x3 : Int32} (o_t0 : ok11 S R t0) : hs_R scr (d + 1) 305 32 [some (.ref t0), some (.int x1), some (.int x2), some (.int x3)] [] (S, I, L, R) = (if (200 : Int32) < x3 then hs_R scr (d + 1) 305 63 [some (.ref t0), some (.int x1), some (.int x2), some (.int x3)] [] (S, I, L, R) else (if (0 : Int32) ≤ x2 then hs_R scr (d + 1) 305 63 [some (.ref t0), some (.int x1), some (.int x2), some (.int x3)] [] (S, I, L, R) else ((hs_C scr d 301 [.ref t0, .int x1] (S, I, L, R)).bind fun o => hs_R scr (d + 1) 305 48 [some (.ref t0), some (.int x1), some (.int x2), some (.int x3)] (o.1.toList ++ []) o.2))) := Eq.trans (r_il_n d305_32 rfl) (Eq.trans (r_sp d305_33 kS_200) (Eq.trans (r_cgt d305_36 rfl) (q_ite (rfl) (Eq.trans (r_il_n d305_39 rfl) (Eq.trans (r_zge d305_40 rfl) (q_ite (rfl) (Eq.trans (r_al_n d305_43 rfl) (Eq.trans (r_il_n d305_44 rfl) (r_cvE (as := [.int x1]) (r := []) d305_45 c305_394 ow301 o_t0.2.1 np301.symm rfl (hs_fitE mL301 (Nat.le_of_ble_eq_true rfl)))))))))))
theorem b305_48 {t0 : Nat} {x1 x2 x3 s0 : Int32}  : hs_R scr d 305 48 [some (.ref t0), some (.int x1), some (.int x2), some (.int x3)] [.int s0] (S, I, L, R) = (if s0 = 0 then hs_R scr d 305 53 [some (.ref t0), some (.int x1), some (.int x3), some (.int x3)] [] (S, I, L, R) else hs_R scr d 305 53 [some (.ref t0), some (.int x1), some (.int x2), some (.int x3)] [] (S, I, L, R)) := Eq.trans (r_zne d305_48 rfl) (q_ite (Eq.trans (r_il_n d305_51 rfl) (Eq.trans (r_is_n (loc' := [some (.ref t0), some (.int x1), some (.int x3), some (.int x3)]) d305_52 rfl) (rfl))) (rfl))
theorem b305_53 {t0 : Nat} {x1 x2 x3 : Int32} (o_t0 : ok11 S R t0) : hs_R scr (d + 1) 305 53 [some (.ref t0), some (.int x1), some (.int x2), some (.int x3)] [] (S, I, L, R) = ((hs_C scr d 284 [.ref t0] (S, I, L, R)).bind fun o => hs_R scr (d + 1) 305 57 [some (.ref t0), some (.int x1), some (.int x2), some (.int x3)] (o.1.toList ++ []) o.2) := Eq.trans (r_al_n d305_53 rfl) (r_cvE (as := []) (r := []) d305_54 c305_361 ow284 o_t0.2.1 np284.symm rfl (hs_fitE mL284 (Nat.le_of_ble_eq_true rfl)))
theorem b305_57 {t0 : Nat} {x1 x2 x3 : Int32}  : hs_R scr d 305 57 [some (.ref t0), some (.int x1), some (.int x2), some (.int x3)] [] (S, I, L, R) = hs_R scr d 305 32 [some (.ref t0), some (.int x1), some (.int x2), some (.int (x3 + 1))] [] (S, I, L, R) := Eq.trans (r_inc (loc' := [some (.ref t0), some (.int x1), some (.int x2), some (.int (x3 + 1))]) d305_57 kI_1 rfl rfl) (Eq.trans (r_goto d305_60 rfl) (rfl))
theorem b305_63 {t0 : Nat} {x1 x2 x3 : Int32} (o_t0 : ok11 S R t0) : hs_R scr (d + 1) 305 63 [some (.ref t0), some (.int x1), some (.int x2), some (.int x3)] [] (S, I, L, R) = ((hs_C scr d 307 [.ref t0] (S, I, L, R)).bind fun o => hs_R scr (d + 1) 305 67 [some (.ref t0), some (.int x1), some (.int x2), some (.int x3)] (o.1.toList ++ []) o.2) := Eq.trans (r_al_n d305_63 rfl) (r_cvE (as := []) (r := []) d305_64 c305_402 ow307 o_t0.2.1 np307.symm rfl (hs_fitE mL307 (Nat.le_of_ble_eq_true rfl)))
theorem b305_67 {t0 : Nat} {x1 x2 x3 : Int32} (o_t0 : ok11 S R t0) : hs_R scr (d + 1) 305 67 [some (.ref t0), some (.int x1), some (.int x2), some (.int x3)] [] (S, I, L, R) = (if (0 : Int32) ≤ x2 then hs_R scr (d + 1) 305 81 [some (.ref t0), some (.int x1), some (.int x2), some (.int x3)] [.int x2] (S, I, L, R) else ((hs_C scr d 265 [.ref t0, .int 8] (S, I, L, R)).bind fun o => hs_R scr (d + 1) 305 77 [some (.ref t0), some (.int x1), some (.int x2), some (.int x3)] (o.1.toList ++ []) o.2)) := Eq.trans (r_il_n d305_67 rfl) (Eq.trans (r_zge d305_68 rfl) (q_ite (Eq.trans (r_il_n d305_80 rfl) (rfl)) (Eq.trans (r_al_n d305_71 rfl) (Eq.trans (r_bp d305_72 kB_8) (r_cvE (as := [.int 8]) (r := []) d305_74 c305_322 ow265 o_t0.2.1 np265.symm rfl (hs_fitE mL265 (Nat.le_of_ble_eq_true rfl)))))))
theorem b305_77 {t0 : Nat} {x1 x2 x3 s0 : Int32}  : hs_R scr d 305 77 [some (.ref t0), some (.int x1), some (.int x2), some (.int x3)] [.int s0] (S, I, L, R) = hs_R scr d 305 81 [some (.ref t0), some (.int x1), some (.int x2), some (.int x3)] [.int s0] (S, I, L, R) := Eq.trans (r_goto d305_77 rfl) (rfl)
theorem b305_81 {t0 : Nat} {x1 x2 x3 s0 : Int32}  : hs_R scr d 305 81 [some (.ref t0), some (.int x1), some (.int x2), some (.int x3)] [.int s0] (S, I, L, R) = some (some (.int s0), (S, I, L, R)) := r_ri d305_81 rt305
theorem e306 {t0 : Nat} : hs_C scr d 306 [.ref t0] h = hs_R scr d 306 0 [some (.ref t0), none] [] h := by rw [hs_C, mL306]; rfl
theorem b306_0 {t0 : Nat}  : hs_R scr d 306 0 [some (.ref t0), none] [] (S, I, L, R) = hs_R scr d 306 2 [some (.ref t0), some (.int 0)] [] (S, I, L, R) := Eq.trans (r_ic d306_0 kI_0) (Eq.trans (r_is_n (loc' := [some (.ref t0), some (.int 0)]) d306_1 rfl) (rfl))
theorem b306_2 {t0 : Nat} {x1 : Int32} (o_t0 : ok11 S R t0) : hs_R scr d 306 2 [some (.ref t0), some (.int x1)] [] (S, I, L, R) = (if (127 : Int32) ≤ x1 then some (none, (S, I, L, R)) else (if hs_ib x1 1995 = true then (if hs_ib x1 127 = true then hs_R scr d 306 2 [some (.ref t0), some (.int (x1 + 1))] [] (S, (hs_u I (t0 + 6) (Int32.toNatClampNeg x1) (I (t0 + 5) (Int32.toNatClampNeg x1))), L, R) else none) else none)) := Eq.trans (r_il_n d306_2 rfl) (Eq.trans (r_bp d306_3 kB_127) (Eq.trans (r_cge d306_5 rfl) (q_ite (r_rv d306_26 rt306) (Eq.trans (r_al_n d306_8 rfl) (Eq.trans (r_getRe d306_9 f306_38 o_t0.2.1 (o_t0.2.2.2.2.2.2.2.2.2.2.2.2.1) (Nat.le_trans o_t0.1 (Nat.le_add_right _ _))) (Eq.trans (r_il_n d306_12 rfl) (Eq.trans (r_al_n d306_13 rfl) (Eq.trans (r_getRe d306_14 f306_35 o_t0.2.1 (o_t0.2.2.2.2.2.2.2.2.2.2.1) (Nat.le_trans o_t0.1 (Nat.le_add_right _ _))) (Eq.trans (r_il_n d306_17 rfl) (Eq.trans (r_iald d306_18 (o_t0.2.2.2.2.2.2.2.2.2.2.2.1)) (q_ite (Eq.trans (r_iast d306_19 (o_t0.2.2.2.2.2.2.2.2.2.2.2.2.2.1)) (q_ite (Eq.trans (r_inc (loc' := [some (.ref t0), some (.int (x1 + 1))]) d306_20 kI_1 rfl rfl) (Eq.trans (r_goto d306_23 rfl) (rfl))) rfl)) rfl)))))))))))
theorem e307 {t0 : Nat} : hs_C scr d 307 [.ref t0] h = hs_R scr d 307 0 [some (.ref t0), none] [] h := by rw [hs_C, mL307]; rfl
theorem b307_0 {t0 : Nat}  : hs_R scr d 307 0 [some (.ref t0), none] [] (S, I, L, R) = hs_R scr d 307 2 [some (.ref t0), some (.int 0)] [] (S, I, L, R) := Eq.trans (r_ic d307_0 kI_0) (Eq.trans (r_is_n (loc' := [some (.ref t0), some (.int 0)]) d307_1 rfl) (rfl))
theorem b307_2 {t0 : Nat} {x1 : Int32} (o_t0 : ok11 S R t0) : hs_R scr d 307 2 [some (.ref t0), some (.int x1)] [] (S, I, L, R) = (if (127 : Int32) ≤ x1 then some (none, (S, I, L, R)) else (if hs_ib x1 127 = true then (if hs_ib x1 1995 = true then hs_R scr d 307 2 [some (.ref t0), some (.int (x1 + 1))] [] (S, (hs_u I (t0 + 5) (Int32.toNatClampNeg x1) (I (t0 + 6) (Int32.toNatClampNeg x1))), L, R) else none) else none)) := Eq.trans (r_il_n d307_2 rfl) (Eq.trans (r_bp d307_3 kB_127) (Eq.trans (r_cge d307_5 rfl) (q_ite (r_rv d307_26 rt307) (Eq.trans (r_al_n d307_8 rfl) (Eq.trans (r_getRe d307_9 f307_35 o_t0.2.1 (o_t0.2.2.2.2.2.2.2.2.2.2.1) (Nat.le_trans o_t0.1 (Nat.le_add_right _ _))) (Eq.trans (r_il_n d307_12 rfl) (Eq.trans (r_al_n d307_13 rfl) (Eq.trans (r_getRe d307_14 f307_38 o_t0.2.1 (o_t0.2.2.2.2.2.2.2.2.2.2.2.2.1) (Nat.le_trans o_t0.1 (Nat.le_add_right _ _))) (Eq.trans (r_il_n d307_17 rfl) (Eq.trans (r_iald d307_18 (o_t0.2.2.2.2.2.2.2.2.2.2.2.2.2.1)) (q_ite (Eq.trans (r_iast d307_19 (o_t0.2.2.2.2.2.2.2.2.2.2.2.1)) (q_ite (Eq.trans (r_inc (loc' := [some (.ref t0), some (.int (x1 + 1))]) d307_20 kI_1 rfl rfl) (Eq.trans (r_goto d307_23 rfl) (rfl))) rfl)) rfl)))))))))))
theorem e308 {t0 : Nat} {x1 : Int32} : hs_C scr d 308 [.ref t0, .int x1] h = hs_R scr d 308 0 [some (.ref t0), some (.int x1), none, none, none] [] h := by rw [hs_C, mL308]; rfl
theorem b308_0 {t0 : Nat} {x1 : Int32} (o_t0 : ok11 S R t0) : hs_R scr (d + 1) 308 0 [some (.ref t0), some (.int x1), none, none, none] [] (S, I, L, R) = ((hs_C scr d 278 [.ref t0, .int x1] (S, (hs_u (hs_u I t0 1 0) t0 0 0), L, R)).bind fun o => hs_R scr (d + 1) 308 15 [some (.ref t0), some (.int x1), none, none, none] (o.1.toList ++ []) o.2) := Eq.trans (r_al_n d308_0 rfl) (Eq.trans (r_ic d308_1 kI_0) (Eq.trans (r_putI d308_2 f308_60 o_t0.2.1) (Eq.trans (r_al_n d308_5 rfl) (Eq.trans (r_ic d308_6 kI_0) (Eq.trans (r_putI d308_7 f308_63 o_t0.2.1) (Eq.trans (r_al_n d308_10 rfl) (Eq.trans (r_il_n d308_11 rfl) (r_cvE (as := [.int x1]) (r := []) d308_12 c308_346 ow278 o_t0.2.1 np278.symm rfl (hs_fitE mL278 (Nat.le_of_ble_eq_true rfl))))))))))
theorem b308_15 {t0 : Nat} {x1 s0 : Int32} (o_t0 : ok11 S R t0) : hs_R scr (d + 1) 308 15 [some (.ref t0), some (.int x1), none, none, none] [.int s0] (S, I, L, R) = (if s0 = 0 then ((hs_C scr d 265 [.ref t0, .int 2] (S, I, L, R)).bind fun o => hs_R scr (d + 1) 308 23 [some (.ref t0), some (.int x1), none, none, none] (o.1.toList ++ []) o.2) else hs_R scr (d + 1) 308 31 [some (.ref t0), some (.int x1), some (.int 0), some (.int 0), some (.int 0)] [] (S, I, L, R)) := Eq.trans (r_zne d308_15 rfl) (q_ite (Eq.trans (r_al_n d308_18 rfl) (Eq.trans (r_ic d308_19 kI_2) (r_cvE (as := [.int 2]) (r := []) d308_20 c308_322 ow265 o_t0.2.1 np265.symm rfl (hs_fitE mL265 (Nat.le_of_ble_eq_true rfl))))) (Eq.trans (r_ic d308_24 kI_0) (Eq.trans (r_is_n (loc' := [some (.ref t0), some (.int x1), some (.int 0), none, none]) d308_25 rfl) (Eq.trans (r_ic d308_26 kI_0) (Eq.trans (r_is_n (loc' := [some (.ref t0), some (.int x1), some (.int 0), some (.int 0), none]) d308_27 rfl) (Eq.trans (r_ic d308_28 kI_0) (Eq.trans (r_is (loc' := [some (.ref t0), some (.int x1), some (.int 0), some (.int 0), some (.int 0)]) d308_29 rfl) (rfl))))))))
theorem b308_23 {t0 : Nat} {x1 s0 : Int32}  : hs_R scr d 308 23 [some (.ref t0), some (.int x1), none, none, none] [.int s0] (S, I, L, R) = some (some (.int s0), (S, I, L, R)) := r_ri d308_23 rt308
theorem b308_31 {t0 : Nat} {x1 x2 x3 x4 : Int32} (o_t0 : ok11 S R t0) : hs_R scr (d + 1) 308 31 [some (.ref t0), some (.int x1), some (.int x2), some (.int x3), some (.int x4)] [] (S, I, L, R) = (if (I (t0 + 5) 0) ≤ x4 then some (some (.int (x2 + x3)), (S, I, L, R)) else ((hs_C scr d 302 [.ref t0, .int x1, .int x4] (S, I, L, R)).bind fun o => hs_R scr (d + 1) 308 49 [some (.ref t0), some (.int x1), some (.int x2), some (.int x3), some (.int x4)] (o.1.toList ++ []) o.2)) := Eq.trans (r_il d308_31 rfl) (Eq.trans (r_al_n d308_33 rfl) (Eq.trans (r_getRe d308_34 f308_35 o_t0.2.1 (o_t0.2.2.2.2.2.2.2.2.2.2.1) (Nat.le_trans o_t0.1 (Nat.le_add_right _ _))) (Eq.trans (r_ic d308_37 kI_0) (Eq.trans ((r_ialdC d308_38 (o_t0.2.2.2.2.2.2.2.2.2.2.2.1) ib_0_1995 tn_0)) (Eq.trans (r_cge d308_39 rfl) (q_ite (Eq.trans (r_il_n d308_107 rfl) (Eq.trans (r_il_n d308_108 rfl) (Eq.trans (r_iadd d308_109) (r_ri d308_110 rt308)))) (Eq.trans (r_al_n d308_42 rfl) (Eq.trans (r_il_n d308_43 rfl) (Eq.trans (r_il d308_44 rfl) (r_cvE (as := [.int x1, .int x4]) (r := []) d308_46 c308_391 ow302 o_t0.2.1 np302.symm rfl (hs_fitE mL302 (Nat.le_of_ble_eq_true rfl))))))))))))
theorem b308_49 {t0 : Nat} {x1 x2 x3 x4 s0 : Int32} (o_t0 : ok11 S R t0) : hs_R scr (d + 1) 308 49 [some (.ref t0), some (.int x1), some (.int x2), some (.int x3), some (.int x4)] [.int s0] (S, I, L, R) = (if s0 = 0 then ((hs_C scr d 279 [.ref t0, .int x1, .int x4] (S, I, L, R)).bind fun o => hs_R scr (d + 1) 308 63 [some (.ref t0), some (.int x1), some (.int x2), some (.int x3), some (.int x4)] (o.1.toList ++ [.int x2]) o.2) else hs_R scr (d + 1) 308 101 [some (.ref t0), some (.int x1), some (.int x2), some (.int x3), some (.int x4)] [] (S, I, L, R)) := Eq.trans (r_zeq d308_49 rfl) (q_ite (Eq.trans (r_il_n d308_55 rfl) (Eq.trans (r_al_n d308_56 rfl) (Eq.trans (r_il_n d308_57 rfl) (Eq.trans (r_il d308_58 rfl) (r_cvE (as := [.int x1, .int x4]) (r := [.int x2]) d308_60 c308_349 ow279 o_t0.2.1 np279.symm rfl (hs_fitE mL279 (Nat.le_of_ble_eq_true rfl))))))) (Eq.trans (r_goto d308_52 rfl) (rfl)))
theorem b308_63 {t0 : Nat} {x1 x2 x3 x4 s0 s1 : Int32} (o_t0 : ok11 S R t0) : hs_R scr (d + 1) 308 63 [some (.ref t0), some (.int x1), some (.int x2), some (.int x3), some (.int x4)] [.int s1, .int s0] (S, I, L, R) = (if hs_ib ((26 : Int32) + x4) 1995 = true then (if hs_ib ((26 : Int32) + x4) 1995 = true then ((hs_C scr d 279 [.ref t0, .int x1, .int x4] (S, I, L, R)).bind fun o => hs_R scr (d + 1) 308 96 [some (.ref t0), some (.int x1), some (.int (if s0 < (s1 - (I (t0 + 5) (Int32.toNatClampNeg ((26 : Int32) + x4)))) then (s1 - (I (t0 + 5) (Int32.toNatClampNeg ((26 : Int32) + x4)))) else s0)), some (.int x3), some (.int x4)] (o.1.toList ++ [.int (I (t0 + 5) (Int32.toNatClampNeg ((26 : Int32) + x4))), .int x3]) o.2) else none) else none) := Eq.trans (r_al_n d308_63 rfl) (Eq.trans (r_getRe d308_64 f308_35 o_t0.2.1 (o_t0.2.2.2.2.2.2.2.2.2.2.1) (Nat.le_trans o_t0.1 (Nat.le_add_right _ _))) (Eq.trans (r_bp d308_67 kB_26) (Eq.trans (r_il d308_69 rfl) (Eq.trans (r_iadd d308_71) (Eq.trans (r_iald d308_72 (o_t0.2.2.2.2.2.2.2.2.2.2.2.1)) (q_ite (Eq.trans (r_isub d308_73) (Eq.trans (r_max d308_74 c308_245 rfl) (Eq.trans (r_is_n (loc' := [some (.ref t0), some (.int x1), some (.int (if s0 < (s1 - (I (t0 + 5) (Int32.toNatClampNeg ((26 : Int32) + x4)))) then (s1 - (I (t0 + 5) (Int32.toNatClampNeg ((26 : Int32) + x4)))) else s0)), some (.int x3), some (.int x4)]) d308_77 rfl) (Eq.trans (r_il_n d308_78 rfl) (Eq.trans (r_al_n d308_79 rfl) (Eq.trans (r_getRe d308_80 f308_35 o_t0.2.1 (o_t0.2.2.2.2.2.2.2.2.2.2.1) (Nat.le_trans o_t0.1 (Nat.le_add_right _ _))) (Eq.trans (r_bp d308_83 kB_26) (Eq.trans (r_il d308_85 rfl) (Eq.trans (r_iadd d308_87) (Eq.trans (r_iald d308_88 (o_t0.2.2.2.2.2.2.2.2.2.2.2.1)) (q_ite (Eq.trans (r_al_n d308_89 rfl) (Eq.trans (r_il_n d308_90 rfl) (Eq.trans (r_il d308_91 rfl) (r_cvE (as := [.int x1, .int x4]) (r := [.int (I (t0 + 5) (Int32.toNatClampNeg ((26 : Int32) + x4))), .int x3]) d308_93 c308_349 ow279 o_t0.2.1 np279.symm rfl (hs_fitE mL279 (Nat.le_of_ble_eq_true rfl)))))) rfl))))))))))) rfl))))))
theorem b308_96 {t0 : Nat} {x1 x2 x3 x4 s0 s1 s2 : Int32}  : hs_R scr d 308 96 [some (.ref t0), some (.int x1), some (.int x2), some (.int x3), some (.int x4)] [.int s2, .int s1, .int s0] (S, I, L, R) = hs_R scr d 308 101 [some (.ref t0), some (.int x1), some (.int x2), some (.int (if s0 < (s1 - s2) then (s1 - s2) else s0)), some (.int x4)] [] (S, I, L, R) := Eq.trans (r_isub d308_96) (Eq.trans (r_max d308_97 c308_245 rfl) (Eq.trans (r_is_n (loc' := [some (.ref t0), some (.int x1), some (.int x2), some (.int (if s0 < (s1 - s2) then (s1 - s2) else s0)), some (.int x4)]) d308_100 rfl) (rfl)))
theorem b308_101 {t0 : Nat} {x1 x2 x3 x4 : Int32}  : hs_R scr d 308 101 [some (.ref t0), some (.int x1), some (.int x2), some (.int x3), some (.int x4)] [] (S, I, L, R) = hs_R scr d 308 31 [some (.ref t0), some (.int x1), some (.int x2), some (.int x3), some (.int (x4 + 1))] [] (S, I, L, R) := Eq.trans (r_inc (loc' := [some (.ref t0), some (.int x1), some (.int x2), some (.int x3), some (.int (x4 + 1))]) d308_101 kI_1 rfl rfl) (Eq.trans (r_goto d308_104 rfl) (rfl))
theorem e309 {t0 : Nat} {x1 : Int32} : hs_C scr d 309 [.ref t0, .int x1] h = hs_R scr d 309 0 [some (.ref t0), some (.int x1), none, none, none] [] h := by rw [hs_C, mL309]; rfl
theorem b309_0 {t0 : Nat} {x1 : Int32} (o_t0 : ok11 S R t0) : hs_R scr (d + 1) 309 0 [some (.ref t0), some (.int x1), none, none, none] [] (S, I, L, R) = ((hs_C scr d 223 [.long (Int32.toInt64 x1), .long 0, .long 4] (S, (hs_u (hs_u I t0 1 0) t0 0 0), L, R)).bind fun o => hs_R scr (d + 1) 309 19 [some (.ref t0), some (.int x1), none, none, none] (o.1.toList ++ []) o.2) := Eq.trans (r_al_n d309_0 rfl) (Eq.trans (r_ic d309_1 kI_0) (Eq.trans (r_putI d309_2 f309_60 o_t0.2.1) (Eq.trans (r_al_n d309_5 rfl) (Eq.trans (r_ic d309_6 kI_0) (Eq.trans (r_putI d309_7 f309_63 o_t0.2.1) (Eq.trans (r_il_n d309_10 rfl) (Eq.trans (r_i2l d309_11) (Eq.trans (r_lc d309_12 kL_0) (Eq.trans (r_ldc2 d309_13 cl309_408) (r_cs (as := [.long (Int32.toInt64 x1), .long 0, .long 4]) (r := []) d309_16 c309_95 np223.symm rfl (hs_fitE mL223 (Nat.le_of_ble_eq_true rfl))))))))))))
theorem b309_19 {t0 : Nat} {x1 s0 : Int32} (o_t0 : ok11 S R t0) : hs_R scr (d + 1) 309 19 [some (.ref t0), some (.int x1), none, none, none] [.int s0] (S, I, L, R) = (if s0 = 0 then ((hs_C scr d 265 [.ref t0, .int 5] (S, I, L, R)).bind fun o => hs_R scr (d + 1) 309 27 [some (.ref t0), some (.int x1), none, none, none] (o.1.toList ++ []) o.2) else hs_R scr (d + 1) 309 32 [some (.ref t0), some (.int x1), some (.int 0), some (.int 0), none] [] (S, I, L, R)) := Eq.trans (r_zne d309_19 rfl) (q_ite (Eq.trans (r_al_n d309_22 rfl) (Eq.trans (r_ic d309_23 kI_5) (r_cvE (as := [.int 5]) (r := []) d309_24 c309_322 ow265 o_t0.2.1 np265.symm rfl (hs_fitE mL265 (Nat.le_of_ble_eq_true rfl))))) (Eq.trans (r_ic d309_28 kI_0) (Eq.trans (r_is_n (loc' := [some (.ref t0), some (.int x1), some (.int 0), none, none]) d309_29 rfl) (Eq.trans (r_ic d309_30 kI_0) (Eq.trans (r_is_n (loc' := [some (.ref t0), some (.int x1), some (.int 0), some (.int 0), none]) d309_31 rfl) (rfl))))))
theorem b309_27 {t0 : Nat} {x1 s0 : Int32}  : hs_R scr d 309 27 [some (.ref t0), some (.int x1), none, none, none] [.int s0] (S, I, L, R) = some (some (.int s0), (S, I, L, R)) := r_ri d309_27 rt309
theorem b309_32 {t0 : Nat} {x1 x2 x3 : Int32} {w4 : Option Value}  : hs_R scr d 309 32 [some (.ref t0), some (.int x1), some (.int x2), some (.int x3), w4] [] (S, I, L, R) = (if (2 : Int32) < x3 then some (some (.int x2), (S, I, L, R)) else hs_R scr d 309 40 [some (.ref t0), some (.int x1), some (.int x2), some (.int x3), some (.int 0)] [] (S, I, L, R)) := Eq.trans (r_il_n d309_32 rfl) (Eq.trans (r_ic d309_33 kI_2) (Eq.trans (r_cgt d309_34 rfl) (q_ite (Eq.trans (r_il_n d309_76 rfl) (r_ri d309_77 rt309)) (Eq.trans (r_ic d309_37 kI_0) (Eq.trans (r_is (loc' := [some (.ref t0), some (.int x1), some (.int x2), some (.int x3), some (.int 0)]) d309_38 rfl) (rfl))))))
theorem b309_40 {t0 : Nat} {x1 x2 x3 x4 : Int32} (o_t0 : ok11 S R t0) : hs_R scr (d + 1) 309 40 [some (.ref t0), some (.int x1), some (.int x2), some (.int x3), some (.int x4)] [] (S, I, L, R) = (if (2 : Int32) < x4 then hs_R scr (d + 1) 309 70 [some (.ref t0), some (.int x1), some (.int x2), some (.int x3), some (.int x4)] [] (S, I, L, R) else (if x1 < (x3 + x4) then hs_R scr (d + 1) 309 70 [some (.ref t0), some (.int x1), some (.int x2), some (.int x3), some (.int x4)] [] (S, I, L, R) else ((hs_C scr d 310 [.ref t0, .int x3, .int x4] (S, I, L, R)).bind fun o => hs_R scr (d + 1) 309 62 [some (.ref t0), some (.int x1), some (.int x2), some (.int x3), some (.int x4)] (o.1.toList ++ [.int x2]) o.2))) := Eq.trans (r_il d309_40 rfl) (Eq.trans (r_ic d309_42 kI_2) (Eq.trans (r_cgt d309_43 rfl) (q_ite (rfl) (Eq.trans (r_il_n d309_46 rfl) (Eq.trans (r_il d309_47 rfl) (Eq.trans (r_iadd d309_49) (Eq.trans (r_il_n d309_50 rfl) (Eq.trans (r_cgt d309_51 rfl) (q_ite (rfl) (Eq.trans (r_il_n d309_54 rfl) (Eq.trans (r_al_n d309_55 rfl) (Eq.trans (r_il_n d309_56 rfl) (Eq.trans (r_il d309_57 rfl) (r_cvE (as := [.int x3, .int x4]) (r := [.int x2]) d309_59 c309_410 ow310 o_t0.2.1 np310.symm rfl (hs_fitE mL310 (Nat.le_of_ble_eq_true rfl))))))))))))))))
theorem b309_62 {t0 : Nat} {x1 x2 x3 x4 s0 s1 : Int32}  : hs_R scr d 309 62 [some (.ref t0), some (.int x1), some (.int x2), some (.int x3), some (.int x4)] [.int s1, .int s0] (S, I, L, R) = hs_R scr d 309 40 [some (.ref t0), some (.int x1), some (.int (s0 + s1)), some (.int x3), some (.int (x4 + 1))] [] (S, I, L, R) := Eq.trans (r_iadd d309_62) (Eq.trans (r_is_n (loc' := [some (.ref t0), some (.int x1), some (.int (s0 + s1)), some (.int x3), some (.int x4)]) d309_63 rfl) (Eq.trans (r_inc (loc' := [some (.ref t0), some (.int x1), some (.int (s0 + s1)), some (.int x3), some (.int (x4 + 1))]) d309_64 kI_1 rfl rfl) (Eq.trans (r_goto d309_67 rfl) (rfl))))
theorem b309_70 {t0 : Nat} {x1 x2 x3 x4 : Int32}  : hs_R scr d 309 70 [some (.ref t0), some (.int x1), some (.int x2), some (.int x3), some (.int x4)] [] (S, I, L, R) = hs_R scr d 309 32 [some (.ref t0), some (.int x1), some (.int x2), some (.int (x3 + 1)), some (.int x4)] [] (S, I, L, R) := Eq.trans (r_inc (loc' := [some (.ref t0), some (.int x1), some (.int x2), some (.int (x3 + 1)), some (.int x4)]) d309_70 kI_1 rfl rfl) (Eq.trans (r_goto d309_73 rfl) (rfl))
theorem e310 {t0 : Nat} {x1 : Int32} {x2 : Int32} : hs_C scr d 310 [.ref t0, .int x1, .int x2] h = hs_R scr d 310 0 [some (.ref t0), some (.int x1), some (.int x2), none] [] h := by rw [hs_C, mL310]; rfl
theorem b310_0 {t0 : Nat} {x1 x2 : Int32} (o_t0 : ok11 S R t0) : hs_R scr (d + 1) 310 0 [some (.ref t0), some (.int x1), some (.int x2), none] [] (S, I, L, R) = ((hs_C scr d 311 [.ref t0, .int x1, .int x2] (S, I, L, R)).bind fun o => hs_R scr (d + 1) 310 6 [some (.ref t0), some (.int x1), some (.int x2), none] (o.1.toList ++ []) o.2) := Eq.trans (r_al_n d310_0 rfl) (Eq.trans (r_il_n d310_1 rfl) (Eq.trans (r_il_n d310_2 rfl) (r_cvE (as := [.int x1, .int x2]) (r := []) d310_3 c310_405 ow311 o_t0.2.1 np311.symm rfl (hs_fitE mL311 (Nat.le_of_ble_eq_true rfl)))))
theorem b310_6 {t0 : Nat} {x1 x2 s0 : Int32} (o_t0 : ok11 S R t0) : hs_R scr (d + 1) 310 6 [some (.ref t0), some (.int x1), some (.int x2), none] [.int s0] (S, I, L, R) = (if x1 ≤ 0 then hs_R scr (d + 1) 310 22 [some (.ref t0), some (.int x1), some (.int x2), some (.int s0)] [] (S, I, L, R) else ((hs_C scr d 311 [.ref t0, .int (x1 - 1), .int x2] (S, I, L, R)).bind fun o => hs_R scr (d + 1) 310 20 [some (.ref t0), some (.int x1), some (.int x2), some (.int s0)] (o.1.toList ++ [.int s0]) o.2)) := Eq.trans (r_is_n (loc' := [some (.ref t0), some (.int x1), some (.int x2), some (.int s0)]) d310_6 rfl) (Eq.trans (r_il_n d310_7 rfl) (Eq.trans (r_zle d310_8 rfl) (q_ite (rfl) (Eq.trans (r_il_n d310_11 rfl) (Eq.trans (r_al_n d310_12 rfl) (Eq.trans (r_il_n d310_13 rfl) (Eq.trans (r_ic d310_14 kI_1) (Eq.trans (r_isub d310_15) (Eq.trans (r_il_n d310_16 rfl) (r_cvE (as := [.int (x1 - 1), .int x2]) (r := [.int s0]) d310_17 c310_405 ow311 o_t0.2.1 np311.symm rfl (hs_fitE mL311 (Nat.le_of_ble_eq_true rfl))))))))))))
theorem b310_20 {t0 : Nat} {x1 x2 x3 s0 s1 : Int32}  : hs_R scr d 310 20 [some (.ref t0), some (.int x1), some (.int x2), some (.int x3)] [.int s1, .int s0] (S, I, L, R) = hs_R scr d 310 22 [some (.ref t0), some (.int x1), some (.int x2), some (.int (s0 - s1))] [] (S, I, L, R) := Eq.trans (r_isub d310_20) (Eq.trans (r_is_n (loc' := [some (.ref t0), some (.int x1), some (.int x2), some (.int (s0 - s1))]) d310_21 rfl) (rfl))
theorem b310_22 {t0 : Nat} {x1 x2 x3 : Int32} (o_t0 : ok11 S R t0) : hs_R scr (d + 1) 310 22 [some (.ref t0), some (.int x1), some (.int x2), some (.int x3)] [] (S, I, L, R) = (if x2 ≤ 0 then hs_R scr (d + 1) 310 37 [some (.ref t0), some (.int x1), some (.int x2), some (.int x3)] [] (S, I, L, R) else ((hs_C scr d 311 [.ref t0, .int x1, .int (x2 - 1)] (S, I, L, R)).bind fun o => hs_R scr (d + 1) 310 35 [some (.ref t0), some (.int x1), some (.int x2), some (.int x3)] (o.1.toList ++ [.int x3]) o.2)) := Eq.trans (r_il_n d310_22 rfl) (Eq.trans (r_zle d310_23 rfl) (q_ite (rfl) (Eq.trans (r_il_n d310_26 rfl) (Eq.trans (r_al_n d310_27 rfl) (Eq.trans (r_il_n d310_28 rfl) (Eq.trans (r_il_n d310_29 rfl) (Eq.trans (r_ic d310_30 kI_1) (Eq.trans (r_isub d310_31) (r_cvE (as := [.int x1, .int (x2 - 1)]) (r := [.int x3]) d310_32 c310_405 ow311 o_t0.2.1 np311.symm rfl (hs_fitE mL311 (Nat.le_of_ble_eq_true rfl)))))))))))
theorem b310_35 {t0 : Nat} {x1 x2 x3 s0 s1 : Int32}  : hs_R scr d 310 35 [some (.ref t0), some (.int x1), some (.int x2), some (.int x3)] [.int s1, .int s0] (S, I, L, R) = hs_R scr d 310 37 [some (.ref t0), some (.int x1), some (.int x2), some (.int (s0 - s1))] [] (S, I, L, R) := Eq.trans (r_isub d310_35) (Eq.trans (r_is_n (loc' := [some (.ref t0), some (.int x1), some (.int x2), some (.int (s0 - s1))]) d310_36 rfl) (rfl))
theorem b310_37 {t0 : Nat} {x1 x2 x3 : Int32} (o_t0 : ok11 S R t0) : hs_R scr (d + 1) 310 37 [some (.ref t0), some (.int x1), some (.int x2), some (.int x3)] [] (S, I, L, R) = (if x1 ≤ 0 then hs_R scr (d + 1) 310 60 [some (.ref t0), some (.int x1), some (.int x2), some (.int x3)] [] (S, I, L, R) else (if x2 ≤ 0 then hs_R scr (d + 1) 310 60 [some (.ref t0), some (.int x1), some (.int x2), some (.int x3)] [] (S, I, L, R) else ((hs_C scr d 311 [.ref t0, .int (x1 - 1), .int (x2 - 1)] (S, I, L, R)).bind fun o => hs_R scr (d + 1) 310 56 [some (.ref t0), some (.int x1), some (.int x2), some (.int x3)] (o.1.toList ++ [.int x3]) o.2))) := Eq.trans (r_il_n d310_37 rfl) (Eq.trans (r_zle d310_38 rfl) (q_ite (rfl) (Eq.trans (r_il_n d310_41 rfl) (Eq.trans (r_zle d310_42 rfl) (q_ite (rfl) (Eq.trans (r_il_n d310_45 rfl) (Eq.trans (r_al_n d310_46 rfl) (Eq.trans (r_il_n d310_47 rfl) (Eq.trans (r_ic d310_48 kI_1) (Eq.trans (r_isub d310_49) (Eq.trans (r_il_n d310_50 rfl) (Eq.trans (r_ic d310_51 kI_1) (Eq.trans (r_isub d310_52) (r_cvE (as := [.int (x1 - 1), .int (x2 - 1)]) (r := [.int x3]) d310_53 c310_405 ow311 o_t0.2.1 np311.symm rfl (hs_fitE mL311 (Nat.le_of_ble_eq_true rfl))))))))))))))))
theorem b310_56 {t0 : Nat} {x1 x2 x3 s0 s1 : Int32}  : hs_R scr d 310 56 [some (.ref t0), some (.int x1), some (.int x2), some (.int x3)] [.int s1, .int s0] (S, I, L, R) = hs_R scr d 310 61 [some (.ref t0), some (.int x1), some (.int x2), some (.int x3)] [.int (s0 + s1)] (S, I, L, R) := Eq.trans (r_iadd d310_56) (Eq.trans (r_goto d310_57 rfl) (rfl))
theorem b310_60 {t0 : Nat} {x1 x2 x3 : Int32}  : hs_R scr d 310 60 [some (.ref t0), some (.int x1), some (.int x2), some (.int x3)] [] (S, I, L, R) = hs_R scr d 310 61 [some (.ref t0), some (.int x1), some (.int x2), some (.int x3)] [.int x3] (S, I, L, R) := Eq.trans (r_il_n d310_60 rfl) (rfl)
theorem b310_61 {t0 : Nat} {x1 x2 x3 s0 : Int32}  : hs_R scr d 310 61 [some (.ref t0), some (.int x1), some (.int x2), some (.int x3)] [.int s0] (S, I, L, R) = some (some (.int s0), (S, I, L, R)) := r_ri d310_61 rt310
theorem e311 {t0 : Nat} {x1 : Int32} {x2 : Int32} : hs_C scr d 311 [.ref t0, .int x1, .int x2] h = hs_R scr d 311 0 [some (.ref t0), some (.int x1), some (.int x2), none, none] [] h := by rw [hs_C, mL311]; rfl
theorem b311_0 {t0 : Nat} {x1 x2 : Int32}  : hs_R scr d 311 0 [some (.ref t0), some (.int x1), some (.int x2), none, none] [] (S, I, L, R) = hs_R scr d 311 5 [some (.ref t0), some (.int x1), some (.int x2), some (.int 1), some (.int 0)] [] (S, I, L, R) := Eq.trans (r_ic d311_0 kI_1) (Eq.trans (r_is_n (loc' := [some (.ref t0), some (.int x1), some (.int x2), some (.int 1), none]) d311_1 rfl) (Eq.trans (r_ic d311_2 kI_0) (Eq.trans (r_is (loc' := [some (.ref t0), some (.int x1), some (.int x2), some (.int 1), some (.int 0)]) d311_3 rfl) (rfl))))
theorem b311_5 {t0 : Nat} {x1 x2 x3 x4 : Int32} (o_t0 : ok11 S R t0) : hs_R scr d 311 5 [some (.ref t0), some (.int x1), some (.int x2), some (.int x3), some (.int x4)] [] (S, I, L, R) = (if (I (t0 + 5) 0) ≤ x4 then some (some (.int x3), (S, I, L, R)) else (if hs_ib ((26 : Int32) + x4) 1995 = true then (if hs_ib ((26 : Int32) + x4) 1995 = true then hs_R scr d 311 5 [some (.ref t0), some (.int x1), some (.int x2), some (.int (x3 * (((if ((I (t0 + 5) (Int32.toNatClampNeg ((26 : Int32) + x4))) + x1) < (2 : Int32) then ((I (t0 + 5) (Int32.toNatClampNeg ((26 : Int32) + x4))) + x1) else (2 : Int32)) - (if (0 : Int32) < ((I (t0 + 5) (Int32.toNatClampNeg ((26 : Int32) + x4))) - x2) then ((I (t0 + 5) (Int32.toNatClampNeg ((26 : Int32) + x4))) - x2) else (0 : Int32))) + 1))), some (.int (x4 + 1))] [] (S, I, L, R) else none) else none)) := Eq.trans (r_il d311_5 rfl) (Eq.trans (r_al_n d311_7 rfl) (Eq.trans (r_getRe d311_8 f311_35 o_t0.2.1 (o_t0.2.2.2.2.2.2.2.2.2.2.1) (Nat.le_trans o_t0.1 (Nat.le_add_right _ _))) (Eq.trans (r_ic d311_11 kI_0) (Eq.trans ((r_ialdC d311_12 (o_t0.2.2.2.2.2.2.2.2.2.2.2.1) ib_0_1995 tn_0)) (Eq.trans (r_cge d311_13 rfl) (q_ite (Eq.trans (r_il_n d311_60 rfl) (r_ri d311_61 rt311)) (Eq.trans (r_il_n d311_16 rfl) (Eq.trans (r_ic d311_17 kI_2) (Eq.trans (r_al_n d311_18 rfl) (Eq.trans (r_getRe d311_19 f311_35 o_t0.2.1 (o_t0.2.2.2.2.2.2.2.2.2.2.1) (Nat.le_trans o_t0.1 (Nat.le_add_right _ _))) (Eq.trans (r_bp d311_22 kB_26) (Eq.trans (r_il d311_24 rfl) (Eq.trans (r_iadd d311_26) (Eq.trans (r_iald d311_27 (o_t0.2.2.2.2.2.2.2.2.2.2.2.1)) (q_ite (Eq.trans (r_il_n d311_28 rfl) (Eq.trans (r_iadd d311_29) (Eq.trans (r_min d311_30 c311_317 rfl) (Eq.trans (r_ic d311_33 kI_0) (Eq.trans (r_al_n d311_34 rfl) (Eq.trans (r_getRe d311_35 f311_35 o_t0.2.1 (o_t0.2.2.2.2.2.2.2.2.2.2.1) (Nat.le_trans o_t0.1 (Nat.le_add_right _ _))) (Eq.trans (r_bp d311_38 kB_26) (Eq.trans (r_il d311_40 rfl) (Eq.trans (r_iadd d311_42) (Eq.trans (r_iald d311_43 (o_t0.2.2.2.2.2.2.2.2.2.2.2.1)) (q_ite (Eq.trans (r_il_n d311_44 rfl) (Eq.trans (r_isub d311_45) (Eq.trans (r_max d311_46 c311_245 rfl) (Eq.trans (r_isub d311_49) (Eq.trans (r_ic d311_50 kI_1) (Eq.trans (r_iadd d311_51) (Eq.trans (r_imul d311_52) (Eq.trans (r_is_n (loc' := [some (.ref t0), some (.int x1), some (.int x2), some (.int (x3 * (((if ((I (t0 + 5) (Int32.toNatClampNeg ((26 : Int32) + x4))) + x1) < (2 : Int32) then ((I (t0 + 5) (Int32.toNatClampNeg ((26 : Int32) + x4))) + x1) else (2 : Int32)) - (if (0 : Int32) < ((I (t0 + 5) (Int32.toNatClampNeg ((26 : Int32) + x4))) - x2) then ((I (t0 + 5) (Int32.toNatClampNeg ((26 : Int32) + x4))) - x2) else (0 : Int32))) + 1))), some (.int x4)]) d311_53 rfl) (Eq.trans (r_inc (loc' := [some (.ref t0), some (.int x1), some (.int x2), some (.int (x3 * (((if ((I (t0 + 5) (Int32.toNatClampNeg ((26 : Int32) + x4))) + x1) < (2 : Int32) then ((I (t0 + 5) (Int32.toNatClampNeg ((26 : Int32) + x4))) + x1) else (2 : Int32)) - (if (0 : Int32) < ((I (t0 + 5) (Int32.toNatClampNeg ((26 : Int32) + x4))) - x2) then ((I (t0 + 5) (Int32.toNatClampNeg ((26 : Int32) + x4))) - x2) else (0 : Int32))) + 1))), some (.int (x4 + 1))]) d311_54 kI_1 rfl rfl) (Eq.trans (r_goto d311_57 rfl) (rfl))))))))))) rfl))))))))))) rfl)))))))))))))))
theorem e312 {t0 : Nat} {x1 : Int32} {x2 : Int32} : hs_C scr d 312 [.ref t0, .int x1, .int x2] h = hs_R scr d 312 0 [some (.ref t0), some (.int x1), some (.int x2), none] [] h := by rw [hs_C, mL312]; rfl
theorem b312_0 {t0 : Nat} {x1 x2 : Int32} (o_t0 : ok11 S R t0) : hs_R scr (d + 1) 312 0 [some (.ref t0), some (.int x1), some (.int x2), none] [] (S, I, L, R) = ((hs_C scr d 278 [.ref t0, .int x1] (S, (hs_u (hs_u I t0 1 0) t0 0 0), L, R)).bind fun o => hs_R scr (d + 1) 312 15 [some (.ref t0), some (.int x1), some (.int x2), none] (o.1.toList ++ []) o.2) := Eq.trans (r_al_n d312_0 rfl) (Eq.trans (r_ic d312_1 kI_0) (Eq.trans (r_putI d312_2 f312_60 o_t0.2.1) (Eq.trans (r_al_n d312_5 rfl) (Eq.trans (r_ic d312_6 kI_0) (Eq.trans (r_putI d312_7 f312_63 o_t0.2.1) (Eq.trans (r_al_n d312_10 rfl) (Eq.trans (r_il_n d312_11 rfl) (r_cvE (as := [.int x1]) (r := []) d312_12 c312_346 ow278 o_t0.2.1 np278.symm rfl (hs_fitE mL278 (Nat.le_of_ble_eq_true rfl))))))))))
theorem b312_15 {t0 : Nat} {x1 x2 s0 : Int32} (o_t0 : ok11 S R t0) : hs_R scr (d + 1) 312 15 [some (.ref t0), some (.int x1), some (.int x2), none] [.int s0] (S, I, L, R) = (if s0 = 0 then hs_R scr (d + 1) 312 26 [some (.ref t0), some (.int x1), some (.int x2), none] [] (S, I, L, R) else ((hs_C scr d 278 [.ref t0, .int x2] (S, I, L, R)).bind fun o => hs_R scr (d + 1) 312 23 [some (.ref t0), some (.int x1), some (.int x2), none] (o.1.toList ++ []) o.2)) := Eq.trans (r_zeq d312_15 rfl) (q_ite (rfl) (Eq.trans (r_al_n d312_18 rfl) (Eq.trans (r_il_n d312_19 rfl) (r_cvE (as := [.int x2]) (r := []) d312_20 c312_346 ow278 o_t0.2.1 np278.symm rfl (hs_fitE mL278 (Nat.le_of_ble_eq_true rfl))))))
theorem b312_23 {t0 : Nat} {x1 x2 s0 : Int32}  : hs_R scr d 312 23 [some (.ref t0), some (.int x1), some (.int x2), none] [.int s0] (S, I, L, R) = (if s0 = 0 then hs_R scr d 312 26 [some (.ref t0), some (.int x1), some (.int x2), none] [] (S, I, L, R) else hs_R scr d 312 34 [some (.ref t0), some (.int x1), some (.int x2), some (.int 0)] [] (S, I, L, R)) := Eq.trans (r_zne d312_23 rfl) (q_ite (rfl) (Eq.trans (r_ic d312_32 kI_0) (Eq.trans (r_is_n (loc' := [some (.ref t0), some (.int x1), some (.int x2), some (.int 0)]) d312_33 rfl) (rfl))))
theorem b312_26 {t0 : Nat} {x1 x2 : Int32} (o_t0 : ok11 S R t0) : hs_R scr (d + 1) 312 26 [some (.ref t0), some (.int x1), some (.int x2), none] [] (S, I, L, R) = ((hs_C scr d 265 [.ref t0, .int 2] (S, I, L, R)).bind fun o => hs_R scr (d + 1) 312 31 [some (.ref t0), some (.int x1), some (.int x2), none] (o.1.toList ++ []) o.2) := Eq.trans (r_al_n d312_26 rfl) (Eq.trans (r_ic d312_27 kI_2) (r_cvE (as := [.int 2]) (r := []) d312_28 c312_322 ow265 o_t0.2.1 np265.symm rfl (hs_fitE mL265 (Nat.le_of_ble_eq_true rfl))))
theorem b312_31 {t0 : Nat} {x1 x2 s0 : Int32}  : hs_R scr d 312 31 [some (.ref t0), some (.int x1), some (.int x2), none] [.int s0] (S, I, L, R) = some (some (.int s0), (S, I, L, R)) := r_ri d312_31 rt312
theorem b312_34 {t0 : Nat} {x1 x2 x3 : Int32} (o_t0 : ok11 S R t0) : hs_R scr (d + 1) 312 34 [some (.ref t0), some (.int x1), some (.int x2), some (.int x3)] [] (S, I, L, R) = (if (I (t0 + 5) 0) ≤ x3 then some (some (.int 1), (S, I, L, R)) else ((hs_C scr d 279 [.ref t0, .int x1, .int x3] (S, I, L, R)).bind fun o => hs_R scr (d + 1) 312 50 [some (.ref t0), some (.int x1), some (.int x2), some (.int x3)] (o.1.toList ++ []) o.2)) := Eq.trans (r_il_n d312_34 rfl) (Eq.trans (r_al_n d312_35 rfl) (Eq.trans (r_getRe d312_36 f312_35 o_t0.2.1 (o_t0.2.2.2.2.2.2.2.2.2.2.1) (Nat.le_trans o_t0.1 (Nat.le_add_right _ _))) (Eq.trans (r_ic d312_39 kI_0) (Eq.trans ((r_ialdC d312_40 (o_t0.2.2.2.2.2.2.2.2.2.2.2.1) ib_0_1995 tn_0)) (Eq.trans (r_cge d312_41 rfl) (q_ite (Eq.trans (r_ic d312_87 kI_1) (r_ri d312_88 rt312)) (Eq.trans (r_al_n d312_44 rfl) (Eq.trans (r_il_n d312_45 rfl) (Eq.trans (r_il_n d312_46 rfl) (r_cvE (as := [.int x1, .int x3]) (r := []) d312_47 c312_349 ow279 o_t0.2.1 np279.symm rfl (hs_fitE mL279 (Nat.le_of_ble_eq_true rfl))))))))))))
theorem b312_50 {t0 : Nat} {x1 x2 x3 s0 : Int32} (o_t0 : ok11 S R t0) : hs_R scr (d + 1) 312 50 [some (.ref t0), some (.int x1), some (.int x2), some (.int x3)] [.int s0] (S, I, L, R) = (if s0 = 3 then hs_R scr (d + 1) 312 81 [some (.ref t0), some (.int x1), some (.int x2), some (.int x3)] [] (S, I, L, R) else ((hs_C scr d 279 [.ref t0, .int x2, .int x3] (S, I, L, R)).bind fun o => hs_R scr (d + 1) 312 60 [some (.ref t0), some (.int x1), some (.int x2), some (.int x3)] (o.1.toList ++ []) o.2)) := Eq.trans (r_ic d312_50 kI_3) (Eq.trans (r_ceq d312_51 rfl) (q_ite (rfl) (Eq.trans (r_al_n d312_54 rfl) (Eq.trans (r_il_n d312_55 rfl) (Eq.trans (r_il_n d312_56 rfl) (r_cvE (as := [.int x2, .int x3]) (r := []) d312_57 c312_349 ow279 o_t0.2.1 np279.symm rfl (hs_fitE mL279 (Nat.le_of_ble_eq_true rfl))))))))
theorem b312_60 {t0 : Nat} {x1 x2 x3 s0 : Int32} (o_t0 : ok11 S R t0) : hs_R scr (d + 1) 312 60 [some (.ref t0), some (.int x1), some (.int x2), some (.int x3)] [.int s0] (S, I, L, R) = (if s0 = 3 then hs_R scr (d + 1) 312 81 [some (.ref t0), some (.int x1), some (.int x2), some (.int x3)] [] (S, I, L, R) else ((hs_C scr d 279 [.ref t0, .int x1, .int x3] (S, I, L, R)).bind fun o => hs_R scr (d + 1) 312 70 [some (.ref t0), some (.int x1), some (.int x2), some (.int x3)] (o.1.toList ++ []) o.2)) := Eq.trans (r_ic d312_60 kI_3) (Eq.trans (r_ceq d312_61 rfl) (q_ite (rfl) (Eq.trans (r_al_n d312_64 rfl) (Eq.trans (r_il_n d312_65 rfl) (Eq.trans (r_il_n d312_66 rfl) (r_cvE (as := [.int x1, .int x3]) (r := []) d312_67 c312_349 ow279 o_t0.2.1 np279.symm rfl (hs_fitE mL279 (Nat.le_of_ble_eq_true rfl))))))))
theorem b312_70 {t0 : Nat} {x1 x2 x3 s0 : Int32} (o_t0 : ok11 S R t0) : hs_R scr (d + 1) 312 70 [some (.ref t0), some (.int x1), some (.int x2), some (.int x3)] [.int s0] (S, I, L, R) = ((hs_C scr d 279 [.ref t0, .int x2, .int x3] (S, I, L, R)).bind fun o => hs_R scr (d + 1) 312 76 [some (.ref t0), some (.int x1), some (.int x2), some (.int x3)] (o.1.toList ++ [.int s0]) o.2) := Eq.trans (r_al_n d312_70 rfl) (Eq.trans (r_il_n d312_71 rfl) (Eq.trans (r_il_n d312_72 rfl) (r_cvE (as := [.int x2, .int x3]) (r := [.int s0]) d312_73 c312_349 ow279 o_t0.2.1 np279.symm rfl (hs_fitE mL279 (Nat.le_of_ble_eq_true rfl)))))
theorem b312_76 {t0 : Nat} {x1 x2 x3 s0 s1 : Int32}  : hs_R scr d 312 76 [some (.ref t0), some (.int x1), some (.int x2), some (.int x3)] [.int s1, .int s0] (S, I, L, R) = (if s0 = s1 then hs_R scr d 312 81 [some (.ref t0), some (.int x1), some (.int x2), some (.int x3)] [] (S, I, L, R) else some (some (.int 0), (S, I, L, R))) := Eq.trans (r_ceq d312_76 rfl) (q_ite (rfl) (Eq.trans (r_ic d312_79 kI_0) (r_ri d312_80 rt312)))
theorem b312_81 {t0 : Nat} {x1 x2 x3 : Int32}  : hs_R scr d 312 81 [some (.ref t0), some (.int x1), some (.int x2), some (.int x3)] [] (S, I, L, R) = hs_R scr d 312 34 [some (.ref t0), some (.int x1), some (.int x2), some (.int (x3 + 1))] [] (S, I, L, R) := Eq.trans (r_inc (loc' := [some (.ref t0), some (.int x1), some (.int x2), some (.int (x3 + 1))]) d312_81 kI_1 rfl rfl) (Eq.trans (r_goto d312_84 rfl) (rfl))
theorem e313 {t0 : Nat} {x1 : Int32} {x2 : Int32} : hs_C scr d 313 [.ref t0, .int x1, .int x2] h = hs_R scr d 313 0 [some (.ref t0), some (.int x1), some (.int x2)] [] h := by rw [hs_C, mL313]; rfl
theorem b313_0 {t0 : Nat} {x1 x2 : Int32} (o_t0 : ok11 S R t0) : hs_R scr (d + 1) 313 0 [some (.ref t0), some (.int x1), some (.int x2)] [] (S, I, L, R) = ((hs_C scr d 272 [.ref t0, .int x1] (S, (hs_u (hs_u I t0 1 0) t0 0 0), L, R)).bind fun o => hs_R scr (d + 1) 313 15 [some (.ref t0), some (.int x1), some (.int x2)] (o.1.toList ++ []) o.2) := Eq.trans (r_al_n d313_0 rfl) (Eq.trans (r_ic d313_1 kI_0) (Eq.trans (r_putI d313_2 f313_60 o_t0.2.1) (Eq.trans (r_al_n d313_5 rfl) (Eq.trans (r_ic d313_6 kI_0) (Eq.trans (r_putI d313_7 f313_63 o_t0.2.1) (Eq.trans (r_al_n d313_10 rfl) (Eq.trans (r_il_n d313_11 rfl) (r_cvE (as := [.int x1]) (r := []) d313_12 c313_340 ow272 o_t0.2.1 np272.symm rfl (hs_fitE mL272 (Nat.le_of_ble_eq_true rfl))))))))))
theorem b313_15 {t0 : Nat} {x1 x2 s0 : Int32} (o_t0 : ok11 S R t0) : hs_R scr (d + 1) 313 15 [some (.ref t0), some (.int x1), some (.int x2)] [.int s0] (S, I, L, R) = (if s0 = 0 then ((hs_C scr d 265 [.ref t0, .int 2] (S, I, L, R)).bind fun o => hs_R scr (d + 1) 313 23 [some (.ref t0), some (.int x1), some (.int x2)] (o.1.toList ++ []) o.2) else ((hs_C scr d 314 [.int x2] (S, I, L, R)).bind fun o => hs_R scr (d + 1) 313 28 [some (.ref t0), some (.int x1), some (.int x2)] (o.1.toList ++ []) o.2)) := Eq.trans (r_zne d313_15 rfl) (q_ite (Eq.trans (r_al_n d313_18 rfl) (Eq.trans (r_ic d313_19 kI_2) (r_cvE (as := [.int 2]) (r := []) d313_20 c313_322 ow265 o_t0.2.1 np265.symm rfl (hs_fitE mL265 (Nat.le_of_ble_eq_true rfl))))) (Eq.trans (r_il_n d313_24 rfl) (r_cs (as := [.int x2]) (r := []) d313_25 c313_413 np314.symm rfl (hs_fitE mL314 (Nat.le_of_ble_eq_true rfl)))))
theorem b313_23 {t0 : Nat} {x1 x2 s0 : Int32}  : hs_R scr d 313 23 [some (.ref t0), some (.int x1), some (.int x2)] [.int s0] (S, I, L, R) = some (some (.int s0), (S, I, L, R)) := r_ri d313_23 rt313
theorem b313_28 {t0 : Nat} {x1 x2 s0 : Int32} (o_t0 : ok11 S R t0) : hs_R scr (d + 1) 313 28 [some (.ref t0), some (.int x1), some (.int x2)] [.int s0] (S, I, L, R) = (if s0 = 0 then ((hs_C scr d 265 [.ref t0, .int 5] (S, I, L, R)).bind fun o => hs_R scr (d + 1) 313 48 [some (.ref t0), some (.int x1), some (.int x2)] (o.1.toList ++ []) o.2) else ((hs_C scr d 315 [.ref t0, .int ((10 : Int32) + x1), .int x2] (S, I, L, R)).bind fun o => hs_R scr (d + 1) 313 40 [some (.ref t0), some (.int x1), some (.int x2)] (o.1.toList ++ []) o.2)) := Eq.trans (r_zeq d313_28 rfl) (q_ite (Eq.trans (r_al_n d313_43 rfl) (Eq.trans (r_ic d313_44 kI_5) (r_cvE (as := [.int 5]) (r := []) d313_45 c313_322 ow265 o_t0.2.1 np265.symm rfl (hs_fitE mL265 (Nat.le_of_ble_eq_true rfl))))) (Eq.trans (r_al_n d313_31 rfl) (Eq.trans (r_bp d313_32 kB_10) (Eq.trans (r_il_n d313_34 rfl) (Eq.trans (r_iadd d313_35) (Eq.trans (r_il_n d313_36 rfl) (r_cvE (as := [.int ((10 : Int32) + x1), .int x2]) (r := []) d313_37 c313_416 ow315 o_t0.2.1 np315.symm rfl (hs_fitE mL315 (Nat.le_of_ble_eq_true rfl)))))))))
theorem b313_40 {t0 : Nat} {x1 x2 s0 : Int32}  : hs_R scr d 313 40 [some (.ref t0), some (.int x1), some (.int x2)] [.int s0] (S, I, L, R) = hs_R scr d 313 48 [some (.ref t0), some (.int x1), some (.int x2)] [.int s0] (S, I, L, R) := Eq.trans (r_goto d313_40 rfl) (rfl)
theorem b313_48 {t0 : Nat} {x1 x2 s0 : Int32}  : hs_R scr d 313 48 [some (.ref t0), some (.int x1), some (.int x2)] [.int s0] (S, I, L, R) = some (some (.int s0), (S, I, L, R)) := r_ri d313_48 rt313
theorem e314 {x0 : Int32} : hs_C scr d 314 [.int x0] h = hs_R scr d 314 0 [some (.int x0)] [] h := by rw [hs_C, mL314]; rfl
theorem b314_0 {x0 : Int32}  : hs_R scr (d + 1) 314 0 [some (.int x0)] [] (S, I, L, R) = ((hs_C scr d 223 [.long (Int32.toInt64 x0), .long 0, .long 200] (S, I, L, R)).bind fun o => hs_R scr (d + 1) 314 9 [some (.int x0)] (o.1.toList ++ []) o.2) := Eq.trans (r_il_n d314_0 rfl) (Eq.trans (r_i2l d314_1) (Eq.trans (r_lc d314_2 kL_0) (Eq.trans (r_ldc2 d314_3 cl314_397) (r_cs (as := [.long (Int32.toInt64 x0), .long 0, .long 200]) (r := []) d314_6 c314_95 np223.symm rfl (hs_fitE mL223 (Nat.le_of_ble_eq_true rfl))))))
theorem b314_9 {x0 s0 : Int32}  : hs_R scr d 314 9 [some (.int x0)] [.int s0] (S, I, L, R) = (if s0 = 0 ∨ s0 = 1 then some (some (.int s0), (S, I, L, R)) else none) := r_rz d314_9 rt314
theorem e315 {t0 : Nat} {x1 : Int32} {x2 : Int32} : hs_C scr d 315 [.ref t0, .int x1, .int x2] h = hs_R scr d 315 0 [some (.ref t0), some (.int x1), some (.int x2), none] [] h := by rw [hs_C, mL315]; rfl
theorem b315_0 {t0 : Nat} {x1 x2 : Int32} (o_t0 : ok11 S R t0) : hs_R scr (d + 1) 315 0 [some (.ref t0), some (.int x1), some (.int x2), none] [] (S, I, L, R) = ((hs_C scr d 306 [.ref t0] (S, I, L, R)).bind fun o => hs_R scr (d + 1) 315 4 [some (.ref t0), some (.int x1), some (.int x2), none] (o.1.toList ++ []) o.2) := Eq.trans (r_al_n d315_0 rfl) (r_cvE (as := []) (r := []) d315_1 c315_399 ow306 o_t0.2.1 np306.symm rfl (hs_fitE mL306 (Nat.le_of_ble_eq_true rfl)))
theorem b315_4 {t0 : Nat} {x1 x2 : Int32}  : hs_R scr d 315 4 [some (.ref t0), some (.int x1), some (.int x2), none] [] (S, I, L, R) = hs_R scr d 315 6 [some (.ref t0), some (.int x1), some (.int x2), some (.int 0)] [] (S, I, L, R) := Eq.trans (r_ic d315_4 kI_0) (Eq.trans (r_is_n (loc' := [some (.ref t0), some (.int x1), some (.int x2), some (.int 0)]) d315_5 rfl) (rfl))
theorem b315_6 {t0 : Nat} {x1 x2 x3 : Int32} (o_t0 : ok11 S R t0) : hs_R scr (d + 1) 315 6 [some (.ref t0), some (.int x1), some (.int x2), some (.int x3)] [] (S, I, L, R) = (if x2 ≤ x3 then (if hs_ib x1 1995 = true then ((hs_C scr d 307 [.ref t0] (S, I, L, R)).bind fun o => hs_R scr (d + 1) 315 32 [some (.ref t0), some (.int x1), some (.int x2), some (.int (I (t0 + 5) (Int32.toNatClampNeg x1)))] (o.1.toList ++ []) o.2) else none) else ((hs_C scr d 284 [.ref t0] (S, I, L, R)).bind fun o => hs_R scr (d + 1) 315 15 [some (.ref t0), some (.int x1), some (.int x2), some (.int x3)] (o.1.toList ++ []) o.2)) := Eq.trans (r_il_n d315_6 rfl) (Eq.trans (r_il_n d315_7 rfl) (Eq.trans (r_cge d315_8 rfl) (q_ite (Eq.trans (r_al_n d315_21 rfl) (Eq.trans (r_getRe d315_22 f315_35 o_t0.2.1 (o_t0.2.2.2.2.2.2.2.2.2.2.1) (Nat.le_trans o_t0.1 (Nat.le_add_right _ _))) (Eq.trans (r_il_n d315_25 rfl) (Eq.trans (r_iald d315_26 (o_t0.2.2.2.2.2.2.2.2.2.2.2.1)) (q_ite (Eq.trans (r_is_n (loc' := [some (.ref t0), some (.int x1), some (.int x2), some (.int (I (t0 + 5) (Int32.toNatClampNeg x1)))]) d315_27 rfl) (Eq.trans (r_al_n d315_28 rfl) (r_cvE (as := []) (r := []) d315_29 c315_402 ow307 o_t0.2.1 np307.symm rfl (hs_fitE mL307 (Nat.le_of_ble_eq_true rfl))))) rfl))))) (Eq.trans (r_al_n d315_11 rfl) (r_cvE (as := []) (r := []) d315_12 c315_361 ow284 o_t0.2.1 np284.symm rfl (hs_fitE mL284 (Nat.le_of_ble_eq_true rfl)))))))
theorem b315_15 {t0 : Nat} {x1 x2 x3 : Int32}  : hs_R scr d 315 15 [some (.ref t0), some (.int x1), some (.int x2), some (.int x3)] [] (S, I, L, R) = hs_R scr d 315 6 [some (.ref t0), some (.int x1), some (.int x2), some (.int (x3 + 1))] [] (S, I, L, R) := Eq.trans (r_inc (loc' := [some (.ref t0), some (.int x1), some (.int x2), some (.int (x3 + 1))]) d315_15 kI_1 rfl rfl) (Eq.trans (r_goto d315_18 rfl) (rfl))
theorem b315_32 {t0 : Nat} {x1 x2 x3 : Int32}  : hs_R scr d 315 32 [some (.ref t0), some (.int x1), some (.int x2), some (.int x3)] [] (S, I, L, R) = some (some (.int x3), (S, I, L, R)) := Eq.trans (r_il_n d315_32 rfl) (r_ri d315_33 rt315)
theorem e316 {t0 : Nat} {x1 : Int32} {x2 : Int32} : hs_C scr d 316 [.ref t0, .int x1, .int x2] h = hs_R scr d 316 0 [some (.ref t0), some (.int x1), some (.int x2)] [] h := by rw [hs_C, mL316]; rfl
theorem b316_0 {t0 : Nat} {x1 x2 : Int32} (o_t0 : ok11 S R t0) : hs_R scr (d + 1) 316 0 [some (.ref t0), some (.int x1), some (.int x2)] [] (S, I, L, R) = ((hs_C scr d 272 [.ref t0, .int x1] (S, (hs_u (hs_u I t0 1 0) t0 0 0), L, R)).bind fun o => hs_R scr (d + 1) 316 15 [some (.ref t0), some (.int x1), some (.int x2)] (o.1.toList ++ []) o.2) := Eq.trans (r_al_n d316_0 rfl) (Eq.trans (r_ic d316_1 kI_0) (Eq.trans (r_putI d316_2 f316_60 o_t0.2.1) (Eq.trans (r_al_n d316_5 rfl) (Eq.trans (r_ic d316_6 kI_0) (Eq.trans (r_putI d316_7 f316_63 o_t0.2.1) (Eq.trans (r_al_n d316_10 rfl) (Eq.trans (r_il_n d316_11 rfl) (r_cvE (as := [.int x1]) (r := []) d316_12 c316_340 ow272 o_t0.2.1 np272.symm rfl (hs_fitE mL272 (Nat.le_of_ble_eq_true rfl))))))))))
theorem b316_15 {t0 : Nat} {x1 x2 s0 : Int32} (o_t0 : ok11 S R t0) : hs_R scr (d + 1) 316 15 [some (.ref t0), some (.int x1), some (.int x2)] [.int s0] (S, I, L, R) = (if s0 = 0 then ((hs_C scr d 265 [.ref t0, .int 2] (S, I, L, R)).bind fun o => hs_R scr (d + 1) 316 23 [some (.ref t0), some (.int x1), some (.int x2)] (o.1.toList ++ []) o.2) else ((hs_C scr d 314 [.int x2] (S, I, L, R)).bind fun o => hs_R scr (d + 1) 316 28 [some (.ref t0), some (.int x1), some (.int x2)] (o.1.toList ++ []) o.2)) := Eq.trans (r_zne d316_15 rfl) (q_ite (Eq.trans (r_al_n d316_18 rfl) (Eq.trans (r_ic d316_19 kI_2) (r_cvE (as := [.int 2]) (r := []) d316_20 c316_322 ow265 o_t0.2.1 np265.symm rfl (hs_fitE mL265 (Nat.le_of_ble_eq_true rfl))))) (Eq.trans (r_il_n d316_24 rfl) (r_cs (as := [.int x2]) (r := []) d316_25 c316_413 np314.symm rfl (hs_fitE mL314 (Nat.le_of_ble_eq_true rfl)))))
theorem b316_23 {t0 : Nat} {x1 x2 s0 : Int32}  : hs_R scr d 316 23 [some (.ref t0), some (.int x1), some (.int x2)] [.int s0] (S, I, L, R) = some (some (.int s0), (S, I, L, R)) := r_ri d316_23 rt316
theorem b316_28 {t0 : Nat} {x1 x2 s0 : Int32} (o_t0 : ok11 S R t0) : hs_R scr (d + 1) 316 28 [some (.ref t0), some (.int x1), some (.int x2)] [.int s0] (S, I, L, R) = (if s0 = 0 then ((hs_C scr d 265 [.ref t0, .int 5] (S, I, L, R)).bind fun o => hs_R scr (d + 1) 316 48 [some (.ref t0), some (.int x1), some (.int x2)] (o.1.toList ++ []) o.2) else ((hs_C scr d 315 [.ref t0, .int ((26 : Int32) + x1), .int x2] (S, I, L, R)).bind fun o => hs_R scr (d + 1) 316 40 [some (.ref t0), some (.int x1), some (.int x2)] (o.1.toList ++ []) o.2)) := Eq.trans (r_zeq d316_28 rfl) (q_ite (Eq.trans (r_al_n d316_43 rfl) (Eq.trans (r_ic d316_44 kI_5) (r_cvE (as := [.int 5]) (r := []) d316_45 c316_322 ow265 o_t0.2.1 np265.symm rfl (hs_fitE mL265 (Nat.le_of_ble_eq_true rfl))))) (Eq.trans (r_al_n d316_31 rfl) (Eq.trans (r_bp d316_32 kB_26) (Eq.trans (r_il_n d316_34 rfl) (Eq.trans (r_iadd d316_35) (Eq.trans (r_il_n d316_36 rfl) (r_cvE (as := [.int ((26 : Int32) + x1), .int x2]) (r := []) d316_37 c316_416 ow315 o_t0.2.1 np315.symm rfl (hs_fitE mL315 (Nat.le_of_ble_eq_true rfl)))))))))
theorem b316_40 {t0 : Nat} {x1 x2 s0 : Int32}  : hs_R scr d 316 40 [some (.ref t0), some (.int x1), some (.int x2)] [.int s0] (S, I, L, R) = hs_R scr d 316 48 [some (.ref t0), some (.int x1), some (.int x2)] [.int s0] (S, I, L, R) := Eq.trans (r_goto d316_40 rfl) (rfl)
theorem b316_48 {t0 : Nat} {x1 x2 s0 : Int32}  : hs_R scr d 316 48 [some (.ref t0), some (.int x1), some (.int x2)] [.int s0] (S, I, L, R) = some (some (.int s0), (S, I, L, R)) := r_ri d316_48 rt316
theorem e317 {t0 : Nat} {x1 : Int32} {x2 : Int32} : hs_C scr d 317 [.ref t0, .int x1, .int x2] h = hs_R scr d 317 0 [some (.ref t0), some (.int x1), some (.int x2), none, none] [] h := by rw [hs_C, mL317]; rfl
theorem b317_0 {t0 : Nat} {x1 x2 : Int32} (o_t0 : ok11 S R t0) : hs_R scr (d + 1) 317 0 [some (.ref t0), some (.int x1), some (.int x2), none, none] [] (S, I, L, R) = ((hs_C scr d 272 [.ref t0, .int x1] (S, (hs_u (hs_u I t0 1 0) t0 0 0), L, R)).bind fun o => hs_R scr (d + 1) 317 15 [some (.ref t0), some (.int x1), some (.int x2), none, none] (o.1.toList ++ []) o.2) := Eq.trans (r_al_n d317_0 rfl) (Eq.trans (r_ic d317_1 kI_0) (Eq.trans (r_putI d317_2 f317_60 o_t0.2.1) (Eq.trans (r_al_n d317_5 rfl) (Eq.trans (r_ic d317_6 kI_0) (Eq.trans (r_putI d317_7 f317_63 o_t0.2.1) (Eq.trans (r_al_n d317_10 rfl) (Eq.trans (r_il_n d317_11 rfl) (r_cvE (as := [.int x1]) (r := []) d317_12 c317_340 ow272 o_t0.2.1 np272.symm rfl (hs_fitE mL272 (Nat.le_of_ble_eq_true rfl))))))))))
theorem b317_15 {t0 : Nat} {x1 x2 s0 : Int32} (o_t0 : ok11 S R t0) : hs_R scr (d + 1) 317 15 [some (.ref t0), some (.int x1), some (.int x2), none, none] [.int s0] (S, I, L, R) = (if s0 = 0 then ((hs_C scr d 265 [.ref t0, .int 2] (S, I, L, R)).bind fun o => hs_R scr (d + 1) 317 23 [some (.ref t0), some (.int x1), some (.int x2), none, none] (o.1.toList ++ []) o.2) else ((hs_C scr d 223 [.long (Int32.toInt64 x2), .long 0, .long 99] (S, I, L, R)).bind fun o => hs_R scr (d + 1) 317 33 [some (.ref t0), some (.int x1), some (.int x2), none, none] (o.1.toList ++ []) o.2)) := Eq.trans (r_zne d317_15 rfl) (q_ite (Eq.trans (r_al_n d317_18 rfl) (Eq.trans (r_ic d317_19 kI_2) (r_cvE (as := [.int 2]) (r := []) d317_20 c317_322 ow265 o_t0.2.1 np265.symm rfl (hs_fitE mL265 (Nat.le_of_ble_eq_true rfl))))) (Eq.trans (r_il_n d317_24 rfl) (Eq.trans (r_i2l d317_25) (Eq.trans (r_lc d317_26 kL_0) (Eq.trans (r_ldc2 d317_27 cl317_359) (r_cs (as := [.long (Int32.toInt64 x2), .long 0, .long 99]) (r := []) d317_30 c317_95 np223.symm rfl (hs_fitE mL223 (Nat.le_of_ble_eq_true rfl))))))))
theorem b317_23 {t0 : Nat} {x1 x2 s0 : Int32}  : hs_R scr d 317 23 [some (.ref t0), some (.int x1), some (.int x2), none, none] [.int s0] (S, I, L, R) = some (some (.int s0), (S, I, L, R)) := r_ri d317_23 rt317
theorem b317_33 {t0 : Nat} {x1 x2 s0 : Int32} (o_t0 : ok11 S R t0) : hs_R scr (d + 1) 317 33 [some (.ref t0), some (.int x1), some (.int x2), none, none] [.int s0] (S, I, L, R) = (if s0 = 0 then ((hs_C scr d 265 [.ref t0, .int 5] (S, I, L, R)).bind fun o => hs_R scr (d + 1) 317 41 [some (.ref t0), some (.int x1), some (.int x2), none, none] (o.1.toList ++ []) o.2) else ((hs_C scr d 306 [.ref t0] (S, I, L, R)).bind fun o => hs_R scr (d + 1) 317 48 [some (.ref t0), some (.int x1), some (.int x2), some (.int (-1)), none] (o.1.toList ++ []) o.2)) := Eq.trans (r_zne d317_33 rfl) (q_ite (Eq.trans (r_al_n d317_36 rfl) (Eq.trans (r_ic d317_37 kI_5) (r_cvE (as := [.int 5]) (r := []) d317_38 c317_322 ow265 o_t0.2.1 np265.symm rfl (hs_fitE mL265 (Nat.le_of_ble_eq_true rfl))))) (Eq.trans (r_ic d317_42 kI_m1) (Eq.trans (r_is_n (loc' := [some (.ref t0), some (.int x1), some (.int x2), some (.int (-1)), none]) d317_43 rfl) (Eq.trans (r_al_n d317_44 rfl) (r_cvE (as := []) (r := []) d317_45 c317_399 ow306 o_t0.2.1 np306.symm rfl (hs_fitE mL306 (Nat.le_of_ble_eq_true rfl)))))))
theorem b317_41 {t0 : Nat} {x1 x2 s0 : Int32}  : hs_R scr d 317 41 [some (.ref t0), some (.int x1), some (.int x2), none, none] [.int s0] (S, I, L, R) = some (some (.int s0), (S, I, L, R)) := r_ri d317_41 rt317
theorem b317_48 {t0 : Nat} {x1 x2 x3 : Int32}  : hs_R scr d 317 48 [some (.ref t0), some (.int x1), some (.int x2), some (.int x3), none] [] (S, I, L, R) = hs_R scr d 317 51 [some (.ref t0), some (.int x1), some (.int x2), some (.int x3), some (.int 0)] [] (S, I, L, R) := Eq.trans (r_ic d317_48 kI_0) (Eq.trans (r_is (loc' := [some (.ref t0), some (.int x1), some (.int x2), some (.int x3), some (.int 0)]) d317_49 rfl) (rfl))
theorem b317_51 {t0 : Nat} {x1 x2 x3 x4 : Int32} (o_t0 : ok11 S R t0) : hs_R scr d 317 51 [some (.ref t0), some (.int x1), some (.int x2), some (.int x3), some (.int x4)] [] (S, I, L, R) = (if (200 : Int32) < x4 then hs_R scr d 317 89 [some (.ref t0), some (.int x1), some (.int x2), some (.int x3), some (.int x4)] [] (S, I, L, R) else (if (0 : Int32) ≤ x3 then hs_R scr d 317 89 [some (.ref t0), some (.int x1), some (.int x2), some (.int x3), some (.int x4)] [] (S, I, L, R) else (if hs_ib ((10 : Int32) + x1) 1995 = true then (if (I (t0 + 5) (Int32.toNatClampNeg ((10 : Int32) + x1))) < x2 then hs_R scr d 317 79 [some (.ref t0), some (.int x1), some (.int x2), some (.int x3), some (.int x4)] [] (S, I, L, R) else hs_R scr d 317 79 [some (.ref t0), some (.int x1), some (.int x2), some (.int x4), some (.int x4)] [] (S, I, L, R)) else none))) := Eq.trans (r_il d317_51 rfl) (Eq.trans (r_sp d317_53 kS_200) (Eq.trans (r_cgt d317_56 rfl) (q_ite (rfl) (Eq.trans (r_il_n d317_59 rfl) (Eq.trans (r_zge d317_60 rfl) (q_ite (rfl) (Eq.trans (r_al_n d317_63 rfl) (Eq.trans (r_getRe d317_64 f317_35 o_t0.2.1 (o_t0.2.2.2.2.2.2.2.2.2.2.1) (Nat.le_trans o_t0.1 (Nat.le_add_right _ _))) (Eq.trans (r_bp d317_67 kB_10) (Eq.trans (r_il_n d317_69 rfl) (Eq.trans (r_iadd d317_70) (Eq.trans (r_iald d317_71 (o_t0.2.2.2.2.2.2.2.2.2.2.2.1)) (q_ite (Eq.trans (r_il_n d317_72 rfl) (Eq.trans (r_clt d317_73 rfl) (q_ite (rfl) (Eq.trans (r_il d317_76 rfl) (Eq.trans (r_is_n (loc' := [some (.ref t0), some (.int x1), some (.int x2), some (.int x4), some (.int x4)]) d317_78 rfl) (rfl)))))) rfl)))))))))))))
theorem b317_79 {t0 : Nat} {x1 x2 x3 x4 : Int32} (o_t0 : ok11 S R t0) : hs_R scr (d + 1) 317 79 [some (.ref t0), some (.int x1), some (.int x2), some (.int x3), some (.int x4)] [] (S, I, L, R) = ((hs_C scr d 284 [.ref t0] (S, I, L, R)).bind fun o => hs_R scr (d + 1) 317 83 [some (.ref t0), some (.int x1), some (.int x2), some (.int x3), some (.int x4)] (o.1.toList ++ []) o.2) := Eq.trans (r_al_n d317_79 rfl) (r_cvE (as := []) (r := []) d317_80 c317_361 ow284 o_t0.2.1 np284.symm rfl (hs_fitE mL284 (Nat.le_of_ble_eq_true rfl)))
theorem b317_83 {t0 : Nat} {x1 x2 x3 x4 : Int32}  : hs_R scr d 317 83 [some (.ref t0), some (.int x1), some (.int x2), some (.int x3), some (.int x4)] [] (S, I, L, R) = hs_R scr d 317 51 [some (.ref t0), some (.int x1), some (.int x2), some (.int x3), some (.int (x4 + 1))] [] (S, I, L, R) := Eq.trans (r_inc (loc' := [some (.ref t0), some (.int x1), some (.int x2), some (.int x3), some (.int (x4 + 1))]) d317_83 kI_1 rfl rfl) (Eq.trans (r_goto d317_86 rfl) (rfl))
theorem b317_89 {t0 : Nat} {x1 x2 x3 x4 : Int32} (o_t0 : ok11 S R t0) : hs_R scr (d + 1) 317 89 [some (.ref t0), some (.int x1), some (.int x2), some (.int x3), some (.int x4)] [] (S, I, L, R) = ((hs_C scr d 307 [.ref t0] (S, I, L, R)).bind fun o => hs_R scr (d + 1) 317 93 [some (.ref t0), some (.int x1), some (.int x2), some (.int x3), some (.int x4)] (o.1.toList ++ []) o.2) := Eq.trans (r_al_n d317_89 rfl) (r_cvE (as := []) (r := []) d317_90 c317_402 ow307 o_t0.2.1 np307.symm rfl (hs_fitE mL307 (Nat.le_of_ble_eq_true rfl)))
theorem b317_93 {t0 : Nat} {x1 x2 x3 x4 : Int32} (o_t0 : ok11 S R t0) : hs_R scr (d + 1) 317 93 [some (.ref t0), some (.int x1), some (.int x2), some (.int x3), some (.int x4)] [] (S, I, L, R) = (if (0 : Int32) ≤ x3 then hs_R scr (d + 1) 317 107 [some (.ref t0), some (.int x1), some (.int x2), some (.int x3), some (.int x4)] [.int x3] (S, I, L, R) else ((hs_C scr d 265 [.ref t0, .int 8] (S, I, L, R)).bind fun o => hs_R scr (d + 1) 317 103 [some (.ref t0), some (.int x1), some (.int x2), some (.int x3), some (.int x4)] (o.1.toList ++ []) o.2)) := Eq.trans (r_il_n d317_93 rfl) (Eq.trans (r_zge d317_94 rfl) (q_ite (Eq.trans (r_il_n d317_106 rfl) (rfl)) (Eq.trans (r_al_n d317_97 rfl) (Eq.trans (r_bp d317_98 kB_8) (r_cvE (as := [.int 8]) (r := []) d317_100 c317_322 ow265 o_t0.2.1 np265.symm rfl (hs_fitE mL265 (Nat.le_of_ble_eq_true rfl)))))))
theorem b317_103 {t0 : Nat} {x1 x2 x3 x4 s0 : Int32}  : hs_R scr d 317 103 [some (.ref t0), some (.int x1), some (.int x2), some (.int x3), some (.int x4)] [.int s0] (S, I, L, R) = hs_R scr d 317 107 [some (.ref t0), some (.int x1), some (.int x2), some (.int x3), some (.int x4)] [.int s0] (S, I, L, R) := Eq.trans (r_goto d317_103 rfl) (rfl)
theorem b317_107 {t0 : Nat} {x1 x2 x3 x4 s0 : Int32}  : hs_R scr d 317 107 [some (.ref t0), some (.int x1), some (.int x2), some (.int x3), some (.int x4)] [.int s0] (S, I, L, R) = some (some (.int s0), (S, I, L, R)) := r_ri d317_107 rt317
theorem e318 {t0 : Nat} : hs_C scr d 318 [.ref t0] h = hs_R scr d 318 0 [some (.ref t0), none, none] [] h := by rw [hs_C, mL318]; rfl
theorem b318_0 {t0 : Nat} (o_t0 : ok11 S R t0) : hs_R scr (d + 1) 318 0 [some (.ref t0), none, none] [] (S, I, L, R) = ((hs_C scr d 306 [.ref t0] (S, (hs_u (hs_u I t0 1 0) t0 0 0), L, R)).bind fun o => hs_R scr (d + 1) 318 16 [some (.ref t0), some (.int (-1)), none] (o.1.toList ++ []) o.2) := Eq.trans (r_al_n d318_0 rfl) (Eq.trans (r_ic d318_1 kI_0) (Eq.trans (r_putI d318_2 f318_60 o_t0.2.1) (Eq.trans (r_al_n d318_5 rfl) (Eq.trans (r_ic d318_6 kI_0) (Eq.trans (r_putI d318_7 f318_63 o_t0.2.1) (Eq.trans (r_ic d318_10 kI_m1) (Eq.trans (r_is_n (loc' := [some (.ref t0), some (.int (-1)), none]) d318_11 rfl) (Eq.trans (r_al_n d318_12 rfl) (r_cvE (as := []) (r := []) d318_13 c318_399 ow306 o_t0.2.1 np306.symm rfl (hs_fitE mL306 (Nat.le_of_ble_eq_true rfl)))))))))))
theorem b318_16 {t0 : Nat} {x1 : Int32}  : hs_R scr d 318 16 [some (.ref t0), some (.int x1), none] [] (S, I, L, R) = hs_R scr d 318 18 [some (.ref t0), some (.int x1), some (.int 0)] [] (S, I, L, R) := Eq.trans (r_ic d318_16 kI_0) (Eq.trans (r_is_n (loc' := [some (.ref t0), some (.int x1), some (.int 0)]) d318_17 rfl) (rfl))
theorem b318_18 {t0 : Nat} {x1 x2 : Int32} (o_t0 : ok11 S R t0) : hs_R scr (d + 1) 318 18 [some (.ref t0), some (.int x1), some (.int x2)] [] (S, I, L, R) = (if (200 : Int32) < x2 then hs_R scr (d + 1) 318 48 [some (.ref t0), some (.int x1), some (.int x2)] [] (S, I, L, R) else (if (0 : Int32) ≤ x1 then hs_R scr (d + 1) 318 48 [some (.ref t0), some (.int x1), some (.int x2)] [] (S, I, L, R) else ((hs_C scr d 319 [.ref t0] (S, I, L, R)).bind fun o => hs_R scr (d + 1) 318 33 [some (.ref t0), some (.int x1), some (.int x2)] (o.1.toList ++ []) o.2))) := Eq.trans (r_il_n d318_18 rfl) (Eq.trans (r_sp d318_19 kS_200) (Eq.trans (r_cgt d318_22 rfl) (q_ite (rfl) (Eq.trans (r_il_n d318_25 rfl) (Eq.trans (r_zge d318_26 rfl) (q_ite (rfl) (Eq.trans (r_al_n d318_29 rfl) (r_cvE (as := []) (r := []) d318_30 c318_419 ow319 o_t0.2.1 np319.symm rfl (hs_fitE mL319 (Nat.le_of_ble_eq_true rfl))))))))))
theorem b318_33 {t0 : Nat} {x1 x2 s0 : Int32}  : hs_R scr d 318 33 [some (.ref t0), some (.int x1), some (.int x2)] [.int s0] (S, I, L, R) = (if s0 = 0 then hs_R scr d 318 38 [some (.ref t0), some (.int x1), some (.int x2)] [] (S, I, L, R) else hs_R scr d 318 38 [some (.ref t0), some (.int x2), some (.int x2)] [] (S, I, L, R)) := Eq.trans (r_zeq d318_33 rfl) (q_ite (rfl) (Eq.trans (r_il_n d318_36 rfl) (Eq.trans (r_is_n (loc' := [some (.ref t0), some (.int x2), some (.int x2)]) d318_37 rfl) (rfl))))
theorem b318_38 {t0 : Nat} {x1 x2 : Int32} (o_t0 : ok11 S R t0) : hs_R scr (d + 1) 318 38 [some (.ref t0), some (.int x1), some (.int x2)] [] (S, I, L, R) = ((hs_C scr d 284 [.ref t0] (S, I, L, R)).bind fun o => hs_R scr (d + 1) 318 42 [some (.ref t0), some (.int x1), some (.int x2)] (o.1.toList ++ []) o.2) := Eq.trans (r_al_n d318_38 rfl) (r_cvE (as := []) (r := []) d318_39 c318_361 ow284 o_t0.2.1 np284.symm rfl (hs_fitE mL284 (Nat.le_of_ble_eq_true rfl)))
theorem b318_42 {t0 : Nat} {x1 x2 : Int32}  : hs_R scr d 318 42 [some (.ref t0), some (.int x1), some (.int x2)] [] (S, I, L, R) = hs_R scr d 318 18 [some (.ref t0), some (.int x1), some (.int (x2 + 1))] [] (S, I, L, R) := Eq.trans (r_inc (loc' := [some (.ref t0), some (.int x1), some (.int (x2 + 1))]) d318_42 kI_1 rfl rfl) (Eq.trans (r_goto d318_45 rfl) (rfl))
theorem b318_48 {t0 : Nat} {x1 x2 : Int32} (o_t0 : ok11 S R t0) : hs_R scr (d + 1) 318 48 [some (.ref t0), some (.int x1), some (.int x2)] [] (S, I, L, R) = ((hs_C scr d 307 [.ref t0] (S, I, L, R)).bind fun o => hs_R scr (d + 1) 318 52 [some (.ref t0), some (.int x1), some (.int x2)] (o.1.toList ++ []) o.2) := Eq.trans (r_al_n d318_48 rfl) (r_cvE (as := []) (r := []) d318_49 c318_402 ow307 o_t0.2.1 np307.symm rfl (hs_fitE mL307 (Nat.le_of_ble_eq_true rfl)))
theorem b318_52 {t0 : Nat} {x1 x2 : Int32} (o_t0 : ok11 S R t0) : hs_R scr (d + 1) 318 52 [some (.ref t0), some (.int x1), some (.int x2)] [] (S, I, L, R) = (if (0 : Int32) ≤ x1 then hs_R scr (d + 1) 318 66 [some (.ref t0), some (.int x1), some (.int x2)] [.int x1] (S, I, L, R) else ((hs_C scr d 265 [.ref t0, .int 8] (S, I, L, R)).bind fun o => hs_R scr (d + 1) 318 62 [some (.ref t0), some (.int x1), some (.int x2)] (o.1.toList ++ []) o.2)) := Eq.trans (r_il_n d318_52 rfl) (Eq.trans (r_zge d318_53 rfl) (q_ite (Eq.trans (r_il_n d318_65 rfl) (rfl)) (Eq.trans (r_al_n d318_56 rfl) (Eq.trans (r_bp d318_57 kB_8) (r_cvE (as := [.int 8]) (r := []) d318_59 c318_322 ow265 o_t0.2.1 np265.symm rfl (hs_fitE mL265 (Nat.le_of_ble_eq_true rfl)))))))
theorem b318_62 {t0 : Nat} {x1 x2 s0 : Int32}  : hs_R scr d 318 62 [some (.ref t0), some (.int x1), some (.int x2)] [.int s0] (S, I, L, R) = hs_R scr d 318 66 [some (.ref t0), some (.int x1), some (.int x2)] [.int s0] (S, I, L, R) := Eq.trans (r_goto d318_62 rfl) (rfl)
theorem b318_66 {t0 : Nat} {x1 x2 s0 : Int32}  : hs_R scr d 318 66 [some (.ref t0), some (.int x1), some (.int x2)] [.int s0] (S, I, L, R) = some (some (.int s0), (S, I, L, R)) := r_ri d318_66 rt318
theorem e319 {t0 : Nat} : hs_C scr d 319 [.ref t0] h = hs_R scr d 319 0 [some (.ref t0), none] [] h := by rw [hs_C, mL319]; rfl
theorem b319_0 {t0 : Nat}  : hs_R scr d 319 0 [some (.ref t0), none] [] (S, I, L, R) = hs_R scr d 319 2 [some (.ref t0), some (.int 1)] [] (S, I, L, R) := Eq.trans (r_ic d319_0 kI_1) (Eq.trans (r_is_n (loc' := [some (.ref t0), some (.int 1)]) d319_1 rfl) (rfl))
theorem b319_2 {t0 : Nat} {x1 : Int32} (o_t0 : ok11 S R t0) : hs_R scr d 319 2 [some (.ref t0), some (.int x1)] [] (S, I, L, R) = (if (I (t0 + 5) 0) ≤ x1 then some (some (.int 1), (S, I, L, R)) else (if hs_ib ((26 : Int32) + x1) 1995 = true then (if (I (t0 + 5) (Int32.toNatClampNeg ((26 : Int32) + x1))) = (I (t0 + 5) 26) then hs_R scr d 319 2 [some (.ref t0), some (.int (x1 + 1))] [] (S, I, L, R) else some (some (.int 0), (S, I, L, R))) else none)) := Eq.trans (r_il_n d319_2 rfl) (Eq.trans (r_al_n d319_3 rfl) (Eq.trans (r_getRe d319_4 f319_35 o_t0.2.1 (o_t0.2.2.2.2.2.2.2.2.2.2.1) (Nat.le_trans o_t0.1 (Nat.le_add_right _ _))) (Eq.trans (r_ic d319_7 kI_0) (Eq.trans ((r_ialdC d319_8 (o_t0.2.2.2.2.2.2.2.2.2.2.2.1) ib_0_1995 tn_0)) (Eq.trans (r_cge d319_9 rfl) (q_ite (Eq.trans (r_ic d319_39 kI_1) ((r_rz d319_40 rt319).trans (if_pos (Or.inr rfl)))) (Eq.trans (r_al_n d319_12 rfl) (Eq.trans (r_getRe d319_13 f319_35 o_t0.2.1 (o_t0.2.2.2.2.2.2.2.2.2.2.1) (Nat.le_trans o_t0.1 (Nat.le_add_right _ _))) (Eq.trans (r_bp d319_16 kB_26) (Eq.trans (r_il_n d319_18 rfl) (Eq.trans (r_iadd d319_19) (Eq.trans (r_iald d319_20 (o_t0.2.2.2.2.2.2.2.2.2.2.2.1)) (q_ite (Eq.trans (r_al_n d319_21 rfl) (Eq.trans (r_getRe d319_22 f319_35 o_t0.2.1 (o_t0.2.2.2.2.2.2.2.2.2.2.1) (Nat.le_trans o_t0.1 (Nat.le_add_right _ _))) (Eq.trans (r_bp d319_25 kB_26) (Eq.trans ((r_ialdC d319_27 (o_t0.2.2.2.2.2.2.2.2.2.2.2.1) ib_26_1995 tn_26)) (Eq.trans (r_ceq d319_28 rfl) (q_ite (Eq.trans (r_inc (loc' := [some (.ref t0), some (.int (x1 + 1))]) d319_33 kI_1 rfl rfl) (Eq.trans (r_goto d319_36 rfl) (rfl))) (Eq.trans (r_ic d319_31 kI_0) ((r_rz d319_32 rt319).trans (if_pos (Or.inl rfl)))))))))) rfl)))))))))))))
theorem e320 {t0 : Nat} {x1 : Int32} : hs_C scr d 320 [.ref t0, .int x1] h = hs_R scr d 320 0 [some (.ref t0), some (.int x1)] [] h := by rw [hs_C, mL320]; rfl
theorem b320_0 {t0 : Nat} {x1 : Int32} (o_t0 : ok11 S R t0) : hs_R scr (d + 1) 320 0 [some (.ref t0), some (.int x1)] [] (S, I, L, R) = ((hs_C scr d 223 [.long (Int32.toInt64 x1), .long 0, .long 999] (S, (hs_u (hs_u I t0 1 0) t0 0 0), L, R)).bind fun o => hs_R scr (d + 1) 320 19 [some (.ref t0), some (.int x1)] (o.1.toList ++ []) o.2) := Eq.trans (r_al_n d320_0 rfl) (Eq.trans (r_ic d320_1 kI_0) (Eq.trans (r_putI d320_2 f320_60 o_t0.2.1) (Eq.trans (r_al_n d320_5 rfl) (Eq.trans (r_ic d320_6 kI_0) (Eq.trans (r_putI d320_7 f320_63 o_t0.2.1) (Eq.trans (r_il_n d320_10 rfl) (Eq.trans (r_i2l d320_11) (Eq.trans (r_lc d320_12 kL_0) (Eq.trans (r_ldc2 d320_13 cl320_422) (r_cs (as := [.long (Int32.toInt64 x1), .long 0, .long 999]) (r := []) d320_16 c320_95 np223.symm rfl (hs_fitE mL223 (Nat.le_of_ble_eq_true rfl))))))))))))
theorem b320_19 {t0 : Nat} {x1 s0 : Int32} (o_t0 : ok11 S R t0) : hs_R scr (d + 1) 320 19 [some (.ref t0), some (.int x1)] [.int s0] (S, I, L, R) = (if s0 = 0 then ((hs_C scr d 265 [.ref t0, .int 5] (S, I, L, R)).bind fun o => hs_R scr (d + 1) 320 46 [some (.ref t0), some (.int x1)] (o.1.toList ++ []) o.2) else ((hs_C scr d 267 [.ref t0, .int ((I (t0 + 5) 8) + x1)] (S, I, L, R)).bind fun o => hs_R scr (d + 1) 320 35 [some (.ref t0), some (.int x1)] (o.1.toList ++ []) o.2)) := Eq.trans (r_zeq d320_19 rfl) (q_ite (Eq.trans (r_al_n d320_41 rfl) (Eq.trans (r_ic d320_42 kI_5) (r_cvE (as := [.int 5]) (r := []) d320_43 c320_322 ow265 o_t0.2.1 np265.symm rfl (hs_fitE mL265 (Nat.le_of_ble_eq_true rfl))))) (Eq.trans (r_al_n d320_22 rfl) (Eq.trans (r_al_n d320_23 rfl) (Eq.trans (r_getRe d320_24 f320_35 o_t0.2.1 (o_t0.2.2.2.2.2.2.2.2.2.2.1) (Nat.le_trans o_t0.1 (Nat.le_add_right _ _))) (Eq.trans (r_bp d320_27 kB_8) (Eq.trans ((r_ialdC d320_29 (o_t0.2.2.2.2.2.2.2.2.2.2.2.1) ib_8_1995 tn_8)) (Eq.trans (r_il_n d320_30 rfl) (Eq.trans (r_iadd d320_31) (r_cvE (as := [.int ((I (t0 + 5) 8) + x1)]) (r := []) d320_32 c320_328 ow267 o_t0.2.1 np267.symm rfl (hs_fitE mL267 (Nat.le_of_ble_eq_true rfl)))))))))))
theorem b320_35 {t0 : Nat} {x1 s0 : Int32}  : hs_R scr (d + 1) 320 35 [some (.ref t0), some (.int x1)] [.int s0] (S, I, L, R) = ((hs_C scr d 321 [.int s0] (S, I, L, R)).bind fun o => hs_R scr (d + 1) 320 38 [some (.ref t0), some (.int x1)] (o.1.toList ++ []) o.2) := r_cs (as := [.int s0]) (r := []) d320_35 c320_424 np321.symm rfl (hs_fitE mL321 (Nat.le_of_ble_eq_true rfl))
theorem b320_38 {t0 : Nat} {x1 s0 : Int32}  : hs_R scr d 320 38 [some (.ref t0), some (.int x1)] [.int s0] (S, I, L, R) = hs_R scr d 320 46 [some (.ref t0), some (.int x1)] [.int s0] (S, I, L, R) := Eq.trans (r_goto d320_38 rfl) (rfl)
theorem b320_46 {t0 : Nat} {x1 s0 : Int32}  : hs_R scr d 320 46 [some (.ref t0), some (.int x1)] [.int s0] (S, I, L, R) = some (some (.int s0), (S, I, L, R)) := r_ri d320_46 rt320
theorem e321 {x0 : Int32} : hs_C scr d 321 [.int x0] h = hs_R scr d 321 0 [some (.int x0), none, none] [] h := by rw [hs_C, mL321]; rfl
theorem b321_0 {x0 : Int32}  : hs_R scr d 321 0 [some (.int x0), none, none] [] (S, I, L, R) = hs_R scr d 321 4 [some (.int x0), some (.int 0), some (.int 0)] [] (S, I, L, R) := Eq.trans (r_ic d321_0 kI_0) (Eq.trans (r_is_n (loc' := [some (.int x0), some (.int 0), none]) d321_1 rfl) (Eq.trans (r_ic d321_2 kI_0) (Eq.trans (r_is_n (loc' := [some (.int x0), some (.int 0), some (.int 0)]) d321_3 rfl) (rfl))))
theorem b321_4 {x0 x1 x2 : Int32}  : hs_R scr (d + 1) 321 4 [some (.int x0), some (.int x1), some (.int x2)] [] (S, I, L, R) = (if (10 : Int32) ≤ x2 then some (some (.int x1), (S, I, L, R)) else ((hs_C scr d 219 [.int x0, .int x2] (S, I, L, R)).bind fun o => hs_R scr (d + 1) 321 16 [some (.int x0), some (.int x1), some (.int x2)] (o.1.toList ++ [.int x1]) o.2)) := Eq.trans (r_il_n d321_4 rfl) (Eq.trans (r_bp d321_5 kB_10) (Eq.trans (r_cge d321_7 rfl) (q_ite (Eq.trans (r_il_n d321_32 rfl) (r_ri d321_33 rt321)) (Eq.trans (r_il_n d321_10 rfl) (Eq.trans (r_il_n d321_11 rfl) (Eq.trans (r_il_n d321_12 rfl) (r_cs (as := [.int x0, .int x2]) (r := [.int x1]) d321_13 c321_99 np219.symm rfl (hs_fitE mL219 (Nat.le_of_ble_eq_true rfl)))))))))
theorem b321_16 {x0 x1 x2 s0 s1 : Int32}  : hs_R scr d 321 16 [some (.int x0), some (.int x1), some (.int x2)] [.int s1, .int s0] (S, I, L, R) = (if s1 = 0 then hs_R scr d 321 24 [some (.int x0), some (.int x1), some (.int x2)] [.int 0, .int s0] (S, I, L, R) else hs_R scr d 321 24 [some (.int x0), some (.int x1), some (.int x2)] [.int 1, .int s0] (S, I, L, R)) := Eq.trans (r_zeq d321_16 rfl) (q_ite (Eq.trans (r_ic d321_23 kI_0) (rfl)) (Eq.trans (r_ic d321_19 kI_1) (Eq.trans (r_goto d321_20 rfl) (rfl))))
theorem b321_24 {x0 x1 x2 s0 s1 : Int32}  : hs_R scr d 321 24 [some (.int x0), some (.int x1), some (.int x2)] [.int s1, .int s0] (S, I, L, R) = hs_R scr d 321 4 [some (.int x0), some (.int (s0 + s1)), some (.int (x2 + 1))] [] (S, I, L, R) := Eq.trans (r_iadd d321_24) (Eq.trans (r_is_n (loc' := [some (.int x0), some (.int (s0 + s1)), some (.int x2)]) d321_25 rfl) (Eq.trans (r_inc (loc' := [some (.int x0), some (.int (s0 + s1)), some (.int (x2 + 1))]) d321_26 kI_1 rfl rfl) (Eq.trans (r_goto d321_29 rfl) (rfl))))
theorem e322 {t0 : Nat} {x1 : Int32} {x2 : Int32} : hs_C scr d 322 [.ref t0, .int x1, .int x2] h = hs_R scr d 322 0 [some (.ref t0), some (.int x1), some (.int x2)] [] h := by rw [hs_C, mL322]; rfl
theorem b322_0 {t0 : Nat} {x1 x2 : Int32} (o_t0 : ok11 S R t0) : hs_R scr (d + 1) 322 0 [some (.ref t0), some (.int x1), some (.int x2)] [] (S, I, L, R) = ((hs_C scr d 289 [.ref t0, .int x1, .int x2] (S, (hs_u I t0 1 0), L, R)).bind fun o => hs_R scr (d + 1) 322 12 [some (.ref t0), some (.int x1), some (.int x2)] (o.1.toList ++ [.ref t0]) o.2) := Eq.trans (r_al_n d322_0 rfl) (Eq.trans (r_ic d322_1 kI_0) (Eq.trans (r_putI d322_2 f322_60 o_t0.2.1) (Eq.trans (r_al_n d322_5 rfl) (Eq.trans (r_al_n d322_6 rfl) (Eq.trans (r_il_n d322_7 rfl) (Eq.trans (r_il_n d322_8 rfl) (r_cvE (as := [.int x1, .int x2]) (r := [.ref t0]) d322_9 c322_367 ow289 o_t0.2.1 np289.symm rfl (hs_fitE mL289 (Nat.le_of_ble_eq_true rfl)))))))))
theorem b322_12 {t0 u0 : Nat} {x1 x2 s1 : Int32} (o_u0 : ok11 S R u0) (o_t0 : ok11 S R t0) : hs_R scr (d + 1) 322 12 [some (.ref t0), some (.int x1), some (.int x2)] [.int s1, .ref u0] (S, I, L, R) = (if ((hs_u I u0 0 s1) t0 0) ≤ 0 then ((hs_C scr d 292 [.ref t0, .int x1, .int x2] (S, (hs_u I u0 0 s1), L, R)).bind fun o => hs_R scr (d + 1) 322 32 [some (.ref t0), some (.int x1), some (.int x2)] (o.1.toList ++ []) o.2) else hs_R scr (d + 1) 322 32 [some (.ref t0), some (.int x1), some (.int x2)] [.int (-1)] (S, (hs_u I u0 0 s1), L, R)) := Eq.trans (r_putI d322_12 f322_63 o_u0.2.1) (Eq.trans (r_al_n d322_15 rfl) (Eq.trans (r_getI d322_16 f322_63 o_t0.2.1) (Eq.trans (r_zle d322_19 rfl) (q_ite (Eq.trans (r_al_n d322_26 rfl) (Eq.trans (r_il_n d322_27 rfl) (Eq.trans (r_il_n d322_28 rfl) (r_cvE (as := [.int x1, .int x2]) (r := []) d322_29 c322_375 ow292 o_t0.2.1 np292.symm rfl (hs_fitE mL292 (Nat.le_of_ble_eq_true rfl)))))) (Eq.trans (r_ic d322_22 kI_m1) (Eq.trans (r_goto d322_23 rfl) (rfl)))))))
theorem b322_32 {t0 : Nat} {x1 x2 s0 : Int32}  : hs_R scr d 322 32 [some (.ref t0), some (.int x1), some (.int x2)] [.int s0] (S, I, L, R) = some (some (.int s0), (S, I, L, R)) := r_ri d322_32 rt322
theorem e323 {t0 : Nat} {x1 : Int32} : hs_C scr d 323 [.ref t0, .int x1] h = hs_R scr d 323 0 [some (.ref t0), some (.int x1), none] [] h := by rw [hs_C, mL323]; rfl
theorem b323_0 {t0 : Nat} {x1 : Int32} (o_t0 : ok11 S R t0) : hs_R scr (d + 1) 323 0 [some (.ref t0), some (.int x1), none] [] (S, I, L, R) = ((hs_C scr d 272 [.ref t0, .int x1] (S, (hs_u (hs_u I t0 1 0) t0 0 0), L, R)).bind fun o => hs_R scr (d + 1) 323 15 [some (.ref t0), some (.int x1), none] (o.1.toList ++ []) o.2) := Eq.trans (r_al_n d323_0 rfl) (Eq.trans (r_ic d323_1 kI_0) (Eq.trans (r_putI d323_2 f323_60 o_t0.2.1) (Eq.trans (r_al_n d323_5 rfl) (Eq.trans (r_ic d323_6 kI_0) (Eq.trans (r_putI d323_7 f323_63 o_t0.2.1) (Eq.trans (r_al_n d323_10 rfl) (Eq.trans (r_il_n d323_11 rfl) (r_cvE (as := [.int x1]) (r := []) d323_12 c323_340 ow272 o_t0.2.1 np272.symm rfl (hs_fitE mL272 (Nat.le_of_ble_eq_true rfl))))))))))
theorem b323_15 {t0 : Nat} {x1 s0 : Int32} (o_t0 : ok11 S R t0) : hs_R scr (d + 1) 323 15 [some (.ref t0), some (.int x1), none] [.int s0] (S, I, L, R) = (if s0 = 0 then ((hs_C scr d 265 [.ref t0, .int 2] (S, I, L, R)).bind fun o => hs_R scr (d + 1) 323 23 [some (.ref t0), some (.int x1), none] (o.1.toList ++ []) o.2) else hs_R scr (d + 1) 323 26 [some (.ref t0), some (.int x1), some (.int 0)] [] (S, I, L, R)) := Eq.trans (r_zne d323_15 rfl) (q_ite (Eq.trans (r_al_n d323_18 rfl) (Eq.trans (r_ic d323_19 kI_2) (r_cvE (as := [.int 2]) (r := []) d323_20 c323_322 ow265 o_t0.2.1 np265.symm rfl (hs_fitE mL265 (Nat.le_of_ble_eq_true rfl))))) (Eq.trans (r_ic d323_24 kI_0) (Eq.trans (r_is_n (loc' := [some (.ref t0), some (.int x1), some (.int 0)]) d323_25 rfl) (rfl))))
theorem b323_23 {t0 : Nat} {x1 s0 : Int32}  : hs_R scr d 323 23 [some (.ref t0), some (.int x1), none] [.int s0] (S, I, L, R) = some (some (.int s0), (S, I, L, R)) := r_ri d323_23 rt323
theorem b323_26 {t0 : Nat} {x1 x2 : Int32} (o_t0 : ok11 S R t0) : hs_R scr (d + 1) 323 26 [some (.ref t0), some (.int x1), some (.int x2)] [] (S, I, L, R) = (if hs_ib ((10 : Int32) + x1) 1995 = true then (if (I (t0 + 5) (Int32.toNatClampNeg ((10 : Int32) + x1))) ≤ x2 then ((hs_C scr d 265 [.ref t0, .int 8] (S, I, L, R)).bind fun o => hs_R scr (d + 1) 323 62 [some (.ref t0), some (.int x1), some (.int x2)] (o.1.toList ++ []) o.2) else ((hs_C scr d 292 [.ref t0, .int x1, .int x2] (S, I, L, R)).bind fun o => hs_R scr (d + 1) 323 45 [some (.ref t0), some (.int x1), some (.int x2)] (o.1.toList ++ []) o.2)) else none) := Eq.trans (r_il_n d323_26 rfl) (Eq.trans (r_al_n d323_27 rfl) (Eq.trans (r_getRe d323_28 f323_35 o_t0.2.1 (o_t0.2.2.2.2.2.2.2.2.2.2.1) (Nat.le_trans o_t0.1 (Nat.le_add_right _ _))) (Eq.trans (r_bp d323_31 kB_10) (Eq.trans (r_il_n d323_33 rfl) (Eq.trans (r_iadd d323_34) (Eq.trans (r_iald d323_35 (o_t0.2.2.2.2.2.2.2.2.2.2.2.1)) (q_ite (Eq.trans (r_cge d323_36 rfl) (q_ite (Eq.trans (r_al_n d323_56 rfl) (Eq.trans (r_bp d323_57 kB_8) (r_cvE (as := [.int 8]) (r := []) d323_59 c323_322 ow265 o_t0.2.1 np265.symm rfl (hs_fitE mL265 (Nat.le_of_ble_eq_true rfl))))) (Eq.trans (r_al_n d323_39 rfl) (Eq.trans (r_il_n d323_40 rfl) (Eq.trans (r_il_n d323_41 rfl) (r_cvE (as := [.int x1, .int x2]) (r := []) d323_42 c323_375 ow292 o_t0.2.1 np292.symm rfl (hs_fitE mL292 (Nat.le_of_ble_eq_true rfl)))))))) rfl)))))))
theorem b323_45 {t0 : Nat} {x1 x2 s0 : Int32}  : hs_R scr d 323 45 [some (.ref t0), some (.int x1), some (.int x2)] [.int s0] (S, I, L, R) = (if s0 ≤ 0 then hs_R scr d 323 26 [some (.ref t0), some (.int x1), some (.int (x2 + 1))] [] (S, I, L, R) else some (some (.int x2), (S, I, L, R))) := Eq.trans (r_zle d323_45 rfl) (q_ite (Eq.trans (r_inc (loc' := [some (.ref t0), some (.int x1), some (.int (x2 + 1))]) d323_50 kI_1 rfl rfl) (Eq.trans (r_goto d323_53 rfl) (rfl))) (Eq.trans (r_il_n d323_48 rfl) (r_ri d323_49 rt323)))
theorem b323_62 {t0 : Nat} {x1 x2 s0 : Int32}  : hs_R scr d 323 62 [some (.ref t0), some (.int x1), some (.int x2)] [.int s0] (S, I, L, R) = some (some (.int s0), (S, I, L, R)) := r_ri d323_62 rt323
theorem e324 {t0 : Nat} {x1 : Int32} : hs_C scr d 324 [.ref t0, .int x1] h = hs_R scr d 324 0 [some (.ref t0), some (.int x1)] [] h := by rw [hs_C, mL324]; rfl
theorem b324_0 {t0 : Nat} {x1 : Int32} (o_t0 : ok11 S R t0) : hs_R scr (d + 1) 324 0 [some (.ref t0), some (.int x1)] [] (S, I, L, R) = ((hs_C scr d 223 [.long (Int32.toInt64 x1), .long 0, .long 999] (S, (hs_u (hs_u I t0 1 0) t0 0 0), L, R)).bind fun o => hs_R scr (d + 1) 324 19 [some (.ref t0), some (.int x1)] (o.1.toList ++ []) o.2) := Eq.trans (r_al_n d324_0 rfl) (Eq.trans (r_ic d324_1 kI_0) (Eq.trans (r_putI d324_2 f324_60 o_t0.2.1) (Eq.trans (r_al_n d324_5 rfl) (Eq.trans (r_ic d324_6 kI_0) (Eq.trans (r_putI d324_7 f324_63 o_t0.2.1) (Eq.trans (r_il_n d324_10 rfl) (Eq.trans (r_i2l d324_11) (Eq.trans (r_lc d324_12 kL_0) (Eq.trans (r_ldc2 d324_13 cl324_422) (r_cs (as := [.long (Int32.toInt64 x1), .long 0, .long 999]) (r := []) d324_16 c324_95 np223.symm rfl (hs_fitE mL223 (Nat.le_of_ble_eq_true rfl))))))))))))
theorem b324_19 {t0 : Nat} {x1 s0 : Int32} (o_t0 : ok11 S R t0) : hs_R scr (d + 1) 324 19 [some (.ref t0), some (.int x1)] [.int s0] (S, I, L, R) = (if s0 = 0 then ((hs_C scr d 265 [.ref t0, .int 5] (S, I, L, R)).bind fun o => hs_R scr (d + 1) 324 38 [some (.ref t0), some (.int x1)] (o.1.toList ++ []) o.2) else ((hs_C scr d 325 [.ref t0, .int x1] (S, I, L, R)).bind fun o => hs_R scr (d + 1) 324 27 [some (.ref t0), some (.int x1)] (o.1.toList ++ []) o.2)) := Eq.trans (r_zeq d324_19 rfl) (q_ite (Eq.trans (r_al_n d324_33 rfl) (Eq.trans (r_ic d324_34 kI_5) (r_cvE (as := [.int 5]) (r := []) d324_35 c324_322 ow265 o_t0.2.1 np265.symm rfl (hs_fitE mL265 (Nat.le_of_ble_eq_true rfl))))) (Eq.trans (r_al_n d324_22 rfl) (Eq.trans (r_il_n d324_23 rfl) (r_cvE (as := [.int x1]) (r := []) d324_24 c324_430 ow325 o_t0.2.1 np325.symm rfl (hs_fitE mL325 (Nat.le_of_ble_eq_true rfl))))))
theorem b324_27 {t0 : Nat} {x1 s0 : Int32}  : hs_R scr (d + 1) 324 27 [some (.ref t0), some (.int x1)] [.int s0] (S, I, L, R) = ((hs_C scr d 321 [.int s0] (S, I, L, R)).bind fun o => hs_R scr (d + 1) 324 30 [some (.ref t0), some (.int x1)] (o.1.toList ++ []) o.2) := r_cs (as := [.int s0]) (r := []) d324_27 c324_424 np321.symm rfl (hs_fitE mL321 (Nat.le_of_ble_eq_true rfl))
theorem b324_30 {t0 : Nat} {x1 s0 : Int32}  : hs_R scr d 324 30 [some (.ref t0), some (.int x1)] [.int s0] (S, I, L, R) = hs_R scr d 324 38 [some (.ref t0), some (.int x1)] [.int s0] (S, I, L, R) := Eq.trans (r_goto d324_30 rfl) (rfl)
theorem b324_38 {t0 : Nat} {x1 s0 : Int32}  : hs_R scr d 324 38 [some (.ref t0), some (.int x1)] [.int s0] (S, I, L, R) = some (some (.int s0), (S, I, L, R)) := r_ri d324_38 rt324
theorem e325 {t0 : Nat} {x1 : Int32} : hs_C scr d 325 [.ref t0, .int x1] h = hs_R scr d 325 0 [some (.ref t0), some (.int x1), none, none, none] [] h := by rw [hs_C, mL325]; rfl
theorem b325_0 {t0 : Nat} {x1 : Int32} (o_t0 : ok11 S R t0) : hs_R scr d 325 0 [some (.ref t0), some (.int x1), none, none, none] [] (S, I, L, R) = hs_R scr d 325 16 [some (.ref t0), some (.int x1), some (.int (((1 : Int32) <<< ((I (t0 + 5) 0) &&& 31)) - 1)), some (.int (((1 : Int32) <<< ((I (t0 + 5) 0) &&& 31)) - 1)), some (.int 0)] [] (S, I, L, R) := Eq.trans (r_ic d325_0 kI_1) (Eq.trans (r_al_n d325_1 rfl) (Eq.trans (r_getRe d325_2 f325_35 o_t0.2.1 (o_t0.2.2.2.2.2.2.2.2.2.2.1) (Nat.le_trans o_t0.1 (Nat.le_add_right _ _))) (Eq.trans (r_ic d325_5 kI_0) (Eq.trans ((r_ialdC d325_6 (o_t0.2.2.2.2.2.2.2.2.2.2.2.1) ib_0_1995 tn_0)) (Eq.trans (r_ishl d325_7) (Eq.trans (r_ic d325_8 kI_1) (Eq.trans (r_isub d325_9) (Eq.trans (r_is_n (loc' := [some (.ref t0), some (.int x1), some (.int (((1 : Int32) <<< ((I (t0 + 5) 0) &&& 31)) - 1)), none, none]) d325_10 rfl) (Eq.trans (r_il_n d325_11 rfl) (Eq.trans (r_is_n (loc' := [some (.ref t0), some (.int x1), some (.int (((1 : Int32) <<< ((I (t0 + 5) 0) &&& 31)) - 1)), some (.int (((1 : Int32) <<< ((I (t0 + 5) 0) &&& 31)) - 1)), none]) d325_12 rfl) (Eq.trans (r_ic d325_13 kI_0) (Eq.trans (r_is (loc' := [some (.ref t0), some (.int x1), some (.int (((1 : Int32) <<< ((I (t0 + 5) 0) &&& 31)) - 1)), some (.int (((1 : Int32) <<< ((I (t0 + 5) 0) &&& 31)) - 1)), some (.int 0)]) d325_14 rfl) (rfl)))))))))))))
theorem b325_16 {t0 : Nat} {x1 x2 x3 x4 : Int32} (o_t0 : ok11 S R t0) : hs_R scr (d + 1) 325 16 [some (.ref t0), some (.int x1), some (.int x2), some (.int x3), some (.int x4)] [] (S, I, L, R) = (if x2 < x4 then some (some (.int x3), (S, I, L, R)) else ((hs_C scr d 326 [.ref t0, .int (x2 &&& (x4 ^^^ (-1)))] (S, I, L, R)).bind fun o => hs_R scr (d + 1) 325 32 [some (.ref t0), some (.int x1), some (.int x2), some (.int x3), some (.int x4)] (o.1.toList ++ []) o.2)) := Eq.trans (r_il d325_16 rfl) (Eq.trans (r_il_n d325_18 rfl) (Eq.trans (r_cgt d325_19 rfl) (q_ite (Eq.trans (r_il_n d325_75 rfl) (r_ri d325_76 rt325)) (Eq.trans (r_al_n d325_22 rfl) (Eq.trans (r_il_n d325_23 rfl) (Eq.trans (r_il d325_24 rfl) (Eq.trans (r_ic d325_26 kI_m1) (Eq.trans (r_ixor d325_27) (Eq.trans (r_iand d325_28) (r_cvE (as := [.int (x2 &&& (x4 ^^^ (-1)))]) (r := []) d325_29 c325_427 ow326 o_t0.2.1 np326.symm rfl (hs_fitE mL326 (Nat.le_of_ble_eq_true rfl))))))))))))
theorem b325_32 {t0 : Nat} {x1 x2 x3 x4 s0 : Int32}  : hs_R scr (d + 1) 325 32 [some (.ref t0), some (.int x1), some (.int x2), some (.int x3), some (.int x4)] [.int s0] (S, I, L, R) = (if x1 < s0 then hs_R scr (d + 1) 325 69 [some (.ref t0), some (.int x1), some (.int x2), some (.int x3), some (.int x4)] [] (S, I, L, R) else ((hs_C scr d 321 [.int x4] (S, I, L, R)).bind fun o => hs_R scr (d + 1) 325 41 [some (.ref t0), some (.int x1), some (.int x2), some (.int x3), some (.int x4)] (o.1.toList ++ []) o.2)) := Eq.trans (r_il_n d325_32 rfl) (Eq.trans (r_cgt d325_33 rfl) (q_ite (rfl) (Eq.trans (r_il d325_36 rfl) (r_cs (as := [.int x4]) (r := []) d325_38 c325_424 np321.symm rfl (hs_fitE mL321 (Nat.le_of_ble_eq_true rfl))))))
theorem b325_41 {t0 : Nat} {x1 x2 x3 x4 s0 : Int32}  : hs_R scr (d + 1) 325 41 [some (.ref t0), some (.int x1), some (.int x2), some (.int x3), some (.int x4)] [.int s0] (S, I, L, R) = ((hs_C scr d 321 [.int x3] (S, I, L, R)).bind fun o => hs_R scr (d + 1) 325 45 [some (.ref t0), some (.int x1), some (.int x2), some (.int x3), some (.int x4)] (o.1.toList ++ [.int s0]) o.2) := Eq.trans (r_il_n d325_41 rfl) (r_cs (as := [.int x3]) (r := [.int s0]) d325_42 c325_424 np321.symm rfl (hs_fitE mL321 (Nat.le_of_ble_eq_true rfl)))
theorem b325_45 {t0 : Nat} {x1 x2 x3 x4 s0 s1 : Int32}  : hs_R scr (d + 1) 325 45 [some (.ref t0), some (.int x1), some (.int x2), some (.int x3), some (.int x4)] [.int s1, .int s0] (S, I, L, R) = (if s0 < s1 then hs_R scr (d + 1) 325 66 [some (.ref t0), some (.int x1), some (.int x2), some (.int x3), some (.int x4)] [] (S, I, L, R) else ((hs_C scr d 321 [.int x4] (S, I, L, R)).bind fun o => hs_R scr (d + 1) 325 53 [some (.ref t0), some (.int x1), some (.int x2), some (.int x3), some (.int x4)] (o.1.toList ++ []) o.2)) := Eq.trans (r_clt d325_45 rfl) (q_ite (rfl) (Eq.trans (r_il d325_48 rfl) (r_cs (as := [.int x4]) (r := []) d325_50 c325_424 np321.symm rfl (hs_fitE mL321 (Nat.le_of_ble_eq_true rfl)))))
theorem b325_53 {t0 : Nat} {x1 x2 x3 x4 s0 : Int32}  : hs_R scr (d + 1) 325 53 [some (.ref t0), some (.int x1), some (.int x2), some (.int x3), some (.int x4)] [.int s0] (S, I, L, R) = ((hs_C scr d 321 [.int x3] (S, I, L, R)).bind fun o => hs_R scr (d + 1) 325 57 [some (.ref t0), some (.int x1), some (.int x2), some (.int x3), some (.int x4)] (o.1.toList ++ [.int s0]) o.2) := Eq.trans (r_il_n d325_53 rfl) (r_cs (as := [.int x3]) (r := [.int s0]) d325_54 c325_424 np321.symm rfl (hs_fitE mL321 (Nat.le_of_ble_eq_true rfl)))
theorem b325_57 {t0 : Nat} {x1 x2 x3 x4 s0 s1 : Int32}  : hs_R scr d 325 57 [some (.ref t0), some (.int x1), some (.int x2), some (.int x3), some (.int x4)] [.int s1, .int s0] (S, I, L, R) = (if s0 = s1 then (if x3 ≤ x4 then hs_R scr d 325 69 [some (.ref t0), some (.int x1), some (.int x2), some (.int x3), some (.int x4)] [] (S, I, L, R) else hs_R scr d 325 66 [some (.ref t0), some (.int x1), some (.int x2), some (.int x3), some (.int x4)] [] (S, I, L, R)) else hs_R scr d 325 69 [some (.ref t0), some (.int x1), some (.int x2), some (.int x3), some (.int x4)] [] (S, I, L, R)) := Eq.trans (r_cne d325_57 rfl) (q_ite (Eq.trans (r_il d325_60 rfl) (Eq.trans (r_il_n d325_62 rfl) (Eq.trans (r_cge d325_63 rfl) (q_ite (rfl) (rfl))))) (rfl))
theorem b325_66 {t0 : Nat} {x1 x2 x3 x4 : Int32}  : hs_R scr d 325 66 [some (.ref t0), some (.int x1), some (.int x2), some (.int x3), some (.int x4)] [] (S, I, L, R) = hs_R scr d 325 69 [some (.ref t0), some (.int x1), some (.int x2), some (.int x4), some (.int x4)] [] (S, I, L, R) := Eq.trans (r_il d325_66 rfl) (Eq.trans (r_is_n (loc' := [some (.ref t0), some (.int x1), some (.int x2), some (.int x4), some (.int x4)]) d325_68 rfl) (rfl))
theorem b325_69 {t0 : Nat} {x1 x2 x3 x4 : Int32}  : hs_R scr d 325 69 [some (.ref t0), some (.int x1), some (.int x2), some (.int x3), some (.int x4)] [] (S, I, L, R) = hs_R scr d 325 16 [some (.ref t0), some (.int x1), some (.int x2), some (.int x3), some (.int (x4 + 1))] [] (S, I, L, R) := Eq.trans (r_inc (loc' := [some (.ref t0), some (.int x1), some (.int x2), some (.int x3), some (.int (x4 + 1))]) d325_69 kI_1 rfl rfl) (Eq.trans (r_goto d325_72 rfl) (rfl))
theorem e326 {t0 : Nat} {x1 : Int32} : hs_C scr d 326 [.ref t0, .int x1] h = hs_R scr d 326 0 [some (.ref t0), some (.int x1), none, none] [] h := by rw [hs_C, mL326]; rfl
theorem b326_0 {t0 : Nat} {x1 : Int32}  : hs_R scr d 326 0 [some (.ref t0), some (.int x1), none, none] [] (S, I, L, R) = hs_R scr d 326 4 [some (.ref t0), some (.int x1), some (.int 0), some (.int 0)] [] (S, I, L, R) := Eq.trans (r_ic d326_0 kI_0) (Eq.trans (r_is_n (loc' := [some (.ref t0), some (.int x1), some (.int 0), none]) d326_1 rfl) (Eq.trans (r_ic d326_2 kI_0) (Eq.trans (r_is_n (loc' := [some (.ref t0), some (.int x1), some (.int 0), some (.int 0)]) d326_3 rfl) (rfl))))
theorem b326_4 {t0 : Nat} {x1 x2 x3 : Int32} (o_t0 : ok11 S R t0) : hs_R scr (d + 1) 326 4 [some (.ref t0), some (.int x1), some (.int x2), some (.int x3)] [] (S, I, L, R) = (if (I (t0 + 5) 0) ≤ x3 then some (some (.int x2), (S, I, L, R)) else ((hs_C scr d 219 [.int x1, .int x3] (S, I, L, R)).bind fun o => hs_R scr (d + 1) 326 20 [some (.ref t0), some (.int x1), some (.int x2), some (.int x3)] (o.1.toList ++ [.int x2]) o.2)) := Eq.trans (r_il_n d326_4 rfl) (Eq.trans (r_al_n d326_5 rfl) (Eq.trans (r_getRe d326_6 f326_35 o_t0.2.1 (o_t0.2.2.2.2.2.2.2.2.2.2.1) (Nat.le_trans o_t0.1 (Nat.le_add_right _ _))) (Eq.trans (r_ic d326_9 kI_0) (Eq.trans ((r_ialdC d326_10 (o_t0.2.2.2.2.2.2.2.2.2.2.2.1) ib_0_1995 tn_0)) (Eq.trans (r_cge d326_11 rfl) (q_ite (Eq.trans (r_il_n d326_44 rfl) (r_ri d326_45 rt326)) (Eq.trans (r_il_n d326_14 rfl) (Eq.trans (r_il_n d326_15 rfl) (Eq.trans (r_il_n d326_16 rfl) (r_cs (as := [.int x1, .int x3]) (r := [.int x2]) d326_17 c326_99 np219.symm rfl (hs_fitE mL219 (Nat.le_of_ble_eq_true rfl))))))))))))
theorem b326_20 {t0 : Nat} {x1 x2 x3 s0 s1 : Int32} (o_t0 : ok11 S R t0) : hs_R scr d 326 20 [some (.ref t0), some (.int x1), some (.int x2), some (.int x3)] [.int s1, .int s0] (S, I, L, R) = (if s1 = 0 then hs_R scr d 326 36 [some (.ref t0), some (.int x1), some (.int x2), some (.int x3)] [.int 0, .int s0] (S, I, L, R) else (if hs_ib ((10 : Int32) + x3) 1995 = true then hs_R scr d 326 36 [some (.ref t0), some (.int x1), some (.int x2), some (.int x3)] [.int (I (t0 + 5) (Int32.toNatClampNeg ((10 : Int32) + x3))), .int s0] (S, I, L, R) else none)) := Eq.trans (r_zeq d326_20 rfl) (q_ite (Eq.trans (r_ic d326_35 kI_0) (rfl)) (Eq.trans (r_al_n d326_23 rfl) (Eq.trans (r_getRe d326_24 f326_35 o_t0.2.1 (o_t0.2.2.2.2.2.2.2.2.2.2.1) (Nat.le_trans o_t0.1 (Nat.le_add_right _ _))) (Eq.trans (r_bp d326_27 kB_10) (Eq.trans (r_il_n d326_29 rfl) (Eq.trans (r_iadd d326_30) (Eq.trans (r_iald d326_31 (o_t0.2.2.2.2.2.2.2.2.2.2.2.1)) (q_ite (Eq.trans (r_goto d326_32 rfl) (rfl)) rfl))))))))
theorem b326_36 {t0 : Nat} {x1 x2 x3 s0 s1 : Int32}  : hs_R scr d 326 36 [some (.ref t0), some (.int x1), some (.int x2), some (.int x3)] [.int s1, .int s0] (S, I, L, R) = hs_R scr d 326 4 [some (.ref t0), some (.int x1), some (.int (s0 + s1)), some (.int (x3 + 1))] [] (S, I, L, R) := Eq.trans (r_iadd d326_36) (Eq.trans (r_is_n (loc' := [some (.ref t0), some (.int x1), some (.int (s0 + s1)), some (.int x3)]) d326_37 rfl) (Eq.trans (r_inc (loc' := [some (.ref t0), some (.int x1), some (.int (s0 + s1)), some (.int (x3 + 1))]) d326_38 kI_1 rfl rfl) (Eq.trans (r_goto d326_41 rfl) (rfl))))
theorem e327 {t0 : Nat} {x1 : Int32} : hs_C scr d 327 [.ref t0, .int x1] h = hs_R scr d 327 0 [some (.ref t0), some (.int x1)] [] h := by rw [hs_C, mL327]; rfl
theorem b327_0 {t0 : Nat} {x1 : Int32} (o_t0 : ok11 S R t0) : hs_R scr (d + 1) 327 0 [some (.ref t0), some (.int x1)] [] (S, I, L, R) = ((hs_C scr d 223 [.long (Int32.toInt64 x1), .long 0, .long 999] (S, (hs_u (hs_u I t0 1 0) t0 0 0), L, R)).bind fun o => hs_R scr (d + 1) 327 19 [some (.ref t0), some (.int x1)] (o.1.toList ++ []) o.2) := Eq.trans (r_al_n d327_0 rfl) (Eq.trans (r_ic d327_1 kI_0) (Eq.trans (r_putI d327_2 f327_60 o_t0.2.1) (Eq.trans (r_al_n d327_5 rfl) (Eq.trans (r_ic d327_6 kI_0) (Eq.trans (r_putI d327_7 f327_63 o_t0.2.1) (Eq.trans (r_il_n d327_10 rfl) (Eq.trans (r_i2l d327_11) (Eq.trans (r_lc d327_12 kL_0) (Eq.trans (r_ldc2 d327_13 cl327_422) (r_cs (as := [.long (Int32.toInt64 x1), .long 0, .long 999]) (r := []) d327_16 c327_95 np223.symm rfl (hs_fitE mL223 (Nat.le_of_ble_eq_true rfl))))))))))))
theorem b327_19 {t0 : Nat} {x1 s0 : Int32} (o_t0 : ok11 S R t0) : hs_R scr (d + 1) 327 19 [some (.ref t0), some (.int x1)] [.int s0] (S, I, L, R) = (if s0 = 0 then ((hs_C scr d 265 [.ref t0, .int 5] (S, I, L, R)).bind fun o => hs_R scr (d + 1) 327 35 [some (.ref t0), some (.int x1)] (o.1.toList ++ []) o.2) else ((hs_C scr d 325 [.ref t0, .int x1] (S, I, L, R)).bind fun o => hs_R scr (d + 1) 327 27 [some (.ref t0), some (.int x1)] (o.1.toList ++ []) o.2)) := Eq.trans (r_zeq d327_19 rfl) (q_ite (Eq.trans (r_al_n d327_30 rfl) (Eq.trans (r_ic d327_31 kI_5) (r_cvE (as := [.int 5]) (r := []) d327_32 c327_322 ow265 o_t0.2.1 np265.symm rfl (hs_fitE mL265 (Nat.le_of_ble_eq_true rfl))))) (Eq.trans (r_al_n d327_22 rfl) (Eq.trans (r_il_n d327_23 rfl) (r_cvE (as := [.int x1]) (r := []) d327_24 c327_430 ow325 o_t0.2.1 np325.symm rfl (hs_fitE mL325 (Nat.le_of_ble_eq_true rfl))))))
theorem b327_27 {t0 : Nat} {x1 s0 : Int32}  : hs_R scr d 327 27 [some (.ref t0), some (.int x1)] [.int s0] (S, I, L, R) = hs_R scr d 327 35 [some (.ref t0), some (.int x1)] [.int s0] (S, I, L, R) := Eq.trans (r_goto d327_27 rfl) (rfl)
theorem b327_35 {t0 : Nat} {x1 s0 : Int32}  : hs_R scr d 327 35 [some (.ref t0), some (.int x1)] [.int s0] (S, I, L, R) = some (some (.int s0), (S, I, L, R)) := r_ri d327_35 rt327
theorem e328 {t0 : Nat} : hs_C scr d 328 [.ref t0] h = hs_R scr d 328 0 [some (.ref t0)] [] h := by rw [hs_C, mL328]; rfl
theorem b328_0 {t0 : Nat} (o_t0 : ok11 S R t0) : hs_R scr (d + 1) 328 0 [some (.ref t0)] [] (S, I, L, R) = ((hs_C scr d 329 [.ref t0] (S, (hs_u (hs_u I t0 1 0) t0 0 0), L, R)).bind fun o => hs_R scr (d + 1) 328 14 [some (.ref t0)] (o.1.toList ++ []) o.2) := Eq.trans (r_al_n d328_0 rfl) (Eq.trans (r_ic d328_1 kI_0) (Eq.trans (r_putI d328_2 f328_60 o_t0.2.1) (Eq.trans (r_al_n d328_5 rfl) (Eq.trans (r_ic d328_6 kI_0) (Eq.trans (r_putI d328_7 f328_63 o_t0.2.1) (Eq.trans (r_al_n d328_10 rfl) (r_cvE (as := []) (r := []) d328_11 c328_436 ow329 o_t0.2.1 np329.symm rfl (hs_fitE mL329 (Nat.le_of_ble_eq_true rfl)))))))))
theorem b328_14 {t0 : Nat} {s0 : Int32}  : hs_R scr d 328 14 [some (.ref t0)] [.int s0] (S, I, L, R) = some (some (.int s0), (S, I, L, R)) := r_ri d328_14 rt328
theorem e329 {t0 : Nat} : hs_C scr d 329 [.ref t0] h = hs_R scr d 329 0 [some (.ref t0), none, none] [] h := by rw [hs_C, mL329]; rfl
theorem b329_0 {t0 : Nat}  : hs_R scr d 329 0 [some (.ref t0), none, none] [] (S, I, L, R) = hs_R scr d 329 4 [some (.ref t0), some (.int 0), some (.int 1)] [] (S, I, L, R) := Eq.trans (r_ic d329_0 kI_0) (Eq.trans (r_is_n (loc' := [some (.ref t0), some (.int 0), none]) d329_1 rfl) (Eq.trans (r_ic d329_2 kI_1) (Eq.trans (r_is_n (loc' := [some (.ref t0), some (.int 0), some (.int 1)]) d329_3 rfl) (rfl))))
theorem b329_4 {t0 : Nat} {x1 x2 : Int32} (o_t0 : ok11 S R t0) : hs_R scr (d + 1) 329 4 [some (.ref t0), some (.int x1), some (.int x2)] [] (S, I, L, R) = (if ((1 : Int32) <<< ((I (t0 + 5) 0) &&& 31)) ≤ x2 then some (some (.int x1), (S, I, L, R)) else ((hs_C scr d 330 [.ref t0, .int x2] (S, I, L, R)).bind fun o => hs_R scr (d + 1) 329 21 [some (.ref t0), some (.int x1), some (.int x2)] (o.1.toList ++ []) o.2)) := Eq.trans (r_il_n d329_4 rfl) (Eq.trans (r_ic d329_5 kI_1) (Eq.trans (r_al_n d329_6 rfl) (Eq.trans (r_getRe d329_7 f329_35 o_t0.2.1 (o_t0.2.2.2.2.2.2.2.2.2.2.1) (Nat.le_trans o_t0.1 (Nat.le_add_right _ _))) (Eq.trans (r_ic d329_10 kI_0) (Eq.trans ((r_ialdC d329_11 (o_t0.2.2.2.2.2.2.2.2.2.2.2.1) ib_0_1995 tn_0)) (Eq.trans (r_ishl d329_12) (Eq.trans (r_cge d329_13 rfl) (q_ite (Eq.trans (r_il_n d329_37 rfl) (r_ri d329_38 rt329)) (Eq.trans (r_al_n d329_16 rfl) (Eq.trans (r_il_n d329_17 rfl) (r_cvE (as := [.int x2]) (r := []) d329_18 c329_433 ow330 o_t0.2.1 np330.symm rfl (hs_fitE mL330 (Nat.le_of_ble_eq_true rfl)))))))))))))
theorem b329_21 {t0 : Nat} {x1 x2 s0 : Int32} (o_t0 : ok11 S R t0) : hs_R scr (d + 1) 329 21 [some (.ref t0), some (.int x1), some (.int x2)] [.int s0] (S, I, L, R) = ((hs_C scr d 330 [.ref t0, .int x1] (S, I, L, R)).bind fun o => hs_R scr (d + 1) 329 26 [some (.ref t0), some (.int x1), some (.int x2)] (o.1.toList ++ [.int s0]) o.2) := Eq.trans (r_al_n d329_21 rfl) (Eq.trans (r_il_n d329_22 rfl) (r_cvE (as := [.int x1]) (r := [.int s0]) d329_23 c329_433 ow330 o_t0.2.1 np330.symm rfl (hs_fitE mL330 (Nat.le_of_ble_eq_true rfl))))
theorem b329_26 {t0 : Nat} {x1 x2 s0 s1 : Int32}  : hs_R scr d 329 26 [some (.ref t0), some (.int x1), some (.int x2)] [.int s1, .int s0] (S, I, L, R) = (if s1 ≤ s0 then hs_R scr d 329 31 [some (.ref t0), some (.int x1), some (.int x2)] [] (S, I, L, R) else hs_R scr d 329 31 [some (.ref t0), some (.int x2), some (.int x2)] [] (S, I, L, R)) := Eq.trans (r_cge d329_26 rfl) (q_ite (rfl) (Eq.trans (r_il_n d329_29 rfl) (Eq.trans (r_is_n (loc' := [some (.ref t0), some (.int x2), some (.int x2)]) d329_30 rfl) (rfl))))
theorem b329_31 {t0 : Nat} {x1 x2 : Int32}  : hs_R scr d 329 31 [some (.ref t0), some (.int x1), some (.int x2)] [] (S, I, L, R) = hs_R scr d 329 4 [some (.ref t0), some (.int x1), some (.int (x2 + 1))] [] (S, I, L, R) := Eq.trans (r_inc (loc' := [some (.ref t0), some (.int x1), some (.int (x2 + 1))]) d329_31 kI_1 rfl rfl) (Eq.trans (r_goto d329_34 rfl) (rfl))
theorem e330 {t0 : Nat} {x1 : Int32} : hs_C scr d 330 [.ref t0, .int x1] h = hs_R scr d 330 0 [some (.ref t0), some (.int x1)] [] h := by rw [hs_C, mL330]; rfl
theorem b330_0 {t0 : Nat} {x1 : Int32} (o_t0 : ok11 S R t0) : hs_R scr (d + 1) 330 0 [some (.ref t0), some (.int x1)] [] (S, I, L, R) = ((hs_C scr d 326 [.ref t0, .int x1] (S, I, L, R)).bind fun o => hs_R scr (d + 1) 330 6 [some (.ref t0), some (.int x1)] (o.1.toList ++ [.int 2]) o.2) := Eq.trans (r_ic d330_0 kI_2) (Eq.trans (r_al_n d330_1 rfl) (Eq.trans (r_il_n d330_2 rfl) (r_cvE (as := [.int x1]) (r := [.int 2]) d330_3 c330_427 ow326 o_t0.2.1 np326.symm rfl (hs_fitE mL326 (Nat.le_of_ble_eq_true rfl)))))
theorem b330_6 {t0 : Nat} {x1 s0 s1 : Int32} (o_t0 : ok11 S R t0) : hs_R scr (d + 1) 330 6 [some (.ref t0), some (.int x1)] [.int s1, .int s0] (S, I, L, R) = ((hs_C scr d 269 [.ref t0, .int 0, .int (I (t0 + 5) 0)] (S, I, L, R)).bind fun o => hs_R scr (d + 1) 330 18 [some (.ref t0), some (.int x1)] (o.1.toList ++ [.int (s0 * s1)]) o.2) := Eq.trans (r_imul d330_6) (Eq.trans (r_al_n d330_7 rfl) (Eq.trans (r_ic d330_8 kI_0) (Eq.trans (r_al_n d330_9 rfl) (Eq.trans (r_getRe d330_10 f330_35 o_t0.2.1 (o_t0.2.2.2.2.2.2.2.2.2.2.1) (Nat.le_trans o_t0.1 (Nat.le_add_right _ _))) (Eq.trans (r_ic d330_13 kI_0) (Eq.trans ((r_ialdC d330_14 (o_t0.2.2.2.2.2.2.2.2.2.2.2.1) ib_0_1995 tn_0)) (r_cvE (as := [.int 0, .int (I (t0 + 5) 0)]) (r := [.int (s0 * s1)]) d330_15 c330_334 ow269 o_t0.2.1 np269.symm rfl (hs_fitE mL269 (Nat.le_of_ble_eq_true rfl)))))))))
theorem b330_18 {t0 : Nat} {x1 s0 s1 : Int32}  : hs_R scr d 330 18 [some (.ref t0), some (.int x1)] [.int s1, .int s0] (S, I, L, R) = some (some (.int (if 0 ≤ (s0 - s1) then (s0 - s1) else 0 - (s0 - s1))), (S, I, L, R)) := Eq.trans (r_isub d330_18) (Eq.trans (r_abs d330_19 c330_373 rfl) (r_ri d330_22 rt330))
theorem e331 {t0 : Nat} : hs_C scr d 331 [.ref t0] h = hs_R scr d 331 0 [some (.ref t0)] [] h := by rw [hs_C, mL331]; rfl
theorem b331_0 {t0 : Nat} (o_t0 : ok11 S R t0) : hs_R scr (d + 1) 331 0 [some (.ref t0)] [] (S, I, L, R) = ((hs_C scr d 329 [.ref t0] (S, (hs_u (hs_u I t0 1 0) t0 0 0), L, R)).bind fun o => hs_R scr (d + 1) 331 15 [some (.ref t0)] (o.1.toList ++ [.ref t0]) o.2) := Eq.trans (r_al_n d331_0 rfl) (Eq.trans (r_ic d331_1 kI_0) (Eq.trans (r_putI d331_2 f331_60 o_t0.2.1) (Eq.trans (r_al_n d331_5 rfl) (Eq.trans (r_ic d331_6 kI_0) (Eq.trans (r_putI d331_7 f331_63 o_t0.2.1) (Eq.trans (r_al_n d331_10 rfl) (Eq.trans (r_al_n d331_11 rfl) (r_cvE (as := []) (r := [.ref t0]) d331_12 c331_436 ow329 o_t0.2.1 np329.symm rfl (hs_fitE mL329 (Nat.le_of_ble_eq_true rfl))))))))))
theorem b331_15 {t0 u0 : Nat} {s1 : Int32} (o_u0 : ok11 S R u0) : hs_R scr (d + 1) 331 15 [some (.ref t0)] [.int s1, .ref u0] (S, I, L, R) = ((hs_C scr d 330 [.ref u0, .int s1] (S, I, L, R)).bind fun o => hs_R scr (d + 1) 331 18 [some (.ref t0)] (o.1.toList ++ []) o.2) := r_cvE (as := [.int s1]) (r := []) d331_15 c331_433 ow330 o_u0.2.1 np330.symm rfl (hs_fitE mL330 (Nat.le_of_ble_eq_true rfl))
theorem b331_18 {t0 : Nat} {s0 : Int32}  : hs_R scr d 331 18 [some (.ref t0)] [.int s0] (S, I, L, R) = some (some (.int s0), (S, I, L, R)) := r_ri d331_18 rt331
theorem e332 {t0 : Nat} {x1 : Int32} {x2 : Int32} : hs_C scr d 332 [.ref t0, .int x1, .int x2] h = hs_R scr d 332 0 [some (.ref t0), some (.int x1), some (.int x2), none, none, none] [] h := by rw [hs_C, mL332]; rfl
theorem b332_0 {t0 : Nat} {x1 x2 : Int32} (o_t0 : ok11 S R t0) : hs_R scr (d + 1) 332 0 [some (.ref t0), some (.int x1), some (.int x2), none, none, none] [] (S, I, L, R) = ((hs_C scr d 282 [.ref t0, .int x1] (S, (hs_u (hs_u I t0 1 0) t0 0 0), L, R)).bind fun o => hs_R scr (d + 1) 332 15 [some (.ref t0), some (.int x1), some (.int x2), none, none, none] (o.1.toList ++ []) o.2) := Eq.trans (r_al_n d332_0 rfl) (Eq.trans (r_ic d332_1 kI_0) (Eq.trans (r_putI d332_2 f332_60 o_t0.2.1) (Eq.trans (r_al_n d332_5 rfl) (Eq.trans (r_ic d332_6 kI_0) (Eq.trans (r_putI d332_7 f332_63 o_t0.2.1) (Eq.trans (r_al_n d332_10 rfl) (Eq.trans (r_il_n d332_11 rfl) (r_cvE (as := [.int x1]) (r := []) d332_12 c332_352 ow282 o_t0.2.1 np282.symm rfl (hs_fitE mL282 (Nat.le_of_ble_eq_true rfl))))))))))
theorem b332_15 {t0 : Nat} {x1 x2 s0 : Int32} (o_t0 : ok11 S R t0) : hs_R scr (d + 1) 332 15 [some (.ref t0), some (.int x1), some (.int x2), none, none, none] [.int s0] (S, I, L, R) = (if s0 = 0 then ((hs_C scr d 265 [.ref t0, .int 1] (S, I, L, R)).bind fun o => hs_R scr (d + 1) 332 23 [some (.ref t0), some (.int x1), some (.int x2), none, none, none] (o.1.toList ++ []) o.2) else (if hs_ib x1 4 = true then (if (0 : Int32) ≤ (I (t0 + 2) (Int32.toNatClampNeg x1)) then (if hs_ib x1 4 = true then (if (0 : Int32) ≤ (lg_cmp (Int32.toInt64 (I (t0 + 2) (Int32.toNatClampNeg x1))) ((2 : Int64) * (Int32.toInt64 x2))) then ((hs_C scr d 223 [.long (Int32.toInt64 x2), .long 0, .long 20] (S, I, L, R)).bind fun o => hs_R scr (d + 1) 332 71 [some (.ref t0), some (.int x1), some (.int x2), none, none, none] (o.1.toList ++ []) o.2) else ((hs_C scr d 265 [.ref t0, .int 4] (S, I, L, R)).bind fun o => hs_R scr (d + 1) 332 61 [some (.ref t0), some (.int x1), some (.int x2), none, none, none] (o.1.toList ++ []) o.2)) else none) else ((hs_C scr d 265 [.ref t0, .int 3] (S, I, L, R)).bind fun o => hs_R scr (d + 1) 332 38 [some (.ref t0), some (.int x1), some (.int x2), none, none, none] (o.1.toList ++ []) o.2)) else none)) := Eq.trans (r_zne d332_15 rfl) (q_ite (Eq.trans (r_al_n d332_18 rfl) (Eq.trans (r_ic d332_19 kI_1) (r_cvE (as := [.int 1]) (r := []) d332_20 c332_322 ow265 o_t0.2.1 np265.symm rfl (hs_fitE mL265 (Nat.le_of_ble_eq_true rfl))))) (Eq.trans (r_al_n d332_24 rfl) (Eq.trans (r_getRe d332_25 f332_17 o_t0.2.1 (o_t0.2.2.2.2.1) (Nat.le_trans o_t0.1 (Nat.le_add_right _ _))) (Eq.trans (r_il_n d332_28 rfl) (Eq.trans (r_iald d332_29 (o_t0.2.2.2.2.2.1)) (q_ite (Eq.trans (r_zge d332_30 rfl) (q_ite (Eq.trans (r_al_n d332_39 rfl) (Eq.trans (r_getRe d332_40 f332_17 o_t0.2.1 (o_t0.2.2.2.2.1) (Nat.le_trans o_t0.1 (Nat.le_add_right _ _))) (Eq.trans (r_il_n d332_43 rfl) (Eq.trans (r_iald d332_44 (o_t0.2.2.2.2.2.1)) (q_ite (Eq.trans (r_i2l d332_45) (Eq.trans (r_ldc2 d332_46 cl332_381) (Eq.trans (r_il_n d332_49 rfl) (Eq.trans (r_i2l d332_50) (Eq.trans (r_lmul d332_51) (Eq.trans (r_lcmp d332_52) (Eq.trans (r_zge d332_53 rfl) (q_ite (Eq.trans (r_il_n d332_62 rfl) (Eq.trans (r_i2l d332_63) (Eq.trans (r_lc d332_64 kL_0) (Eq.trans (r_ldc2 d332_65 cl332_439) (r_cs (as := [.long (Int32.toInt64 x2), .long 0, .long 20]) (r := []) d332_68 c332_95 np223.symm rfl (hs_fitE mL223 (Nat.le_of_ble_eq_true rfl))))))) (Eq.trans (r_al_n d332_56 rfl) (Eq.trans (r_ic d332_57 kI_4) (r_cvE (as := [.int 4]) (r := []) d332_58 c332_322 ow265 o_t0.2.1 np265.symm rfl (hs_fitE mL265 (Nat.le_of_ble_eq_true rfl))))))))))))) rfl))))) (Eq.trans (r_al_n d332_33 rfl) (Eq.trans (r_ic d332_34 kI_3) (r_cvE (as := [.int 3]) (r := []) d332_35 c332_322 ow265 o_t0.2.1 np265.symm rfl (hs_fitE mL265 (Nat.le_of_ble_eq_true rfl))))))) rfl))))))
theorem b332_23 {t0 : Nat} {x1 x2 s0 : Int32}  : hs_R scr d 332 23 [some (.ref t0), some (.int x1), some (.int x2), none, none, none] [.int s0] (S, I, L, R) = some (some (.int s0), (S, I, L, R)) := r_ri d332_23 rt332
theorem b332_38 {t0 : Nat} {x1 x2 s0 : Int32}  : hs_R scr d 332 38 [some (.ref t0), some (.int x1), some (.int x2), none, none, none] [.int s0] (S, I, L, R) = some (some (.int s0), (S, I, L, R)) := r_ri d332_38 rt332
theorem b332_61 {t0 : Nat} {x1 x2 s0 : Int32}  : hs_R scr d 332 61 [some (.ref t0), some (.int x1), some (.int x2), none, none, none] [.int s0] (S, I, L, R) = some (some (.int s0), (S, I, L, R)) := r_ri d332_61 rt332
theorem b332_71 {t0 : Nat} {x1 x2 s0 : Int32} (o_t0 : ok11 S R t0) : hs_R scr (d + 1) 332 71 [some (.ref t0), some (.int x1), some (.int x2), none, none, none] [.int s0] (S, I, L, R) = (if s0 = 0 then ((hs_C scr d 265 [.ref t0, .int 5] (S, I, L, R)).bind fun o => hs_R scr (d + 1) 332 79 [some (.ref t0), some (.int x1), some (.int x2), none, none, none] (o.1.toList ++ []) o.2) else hs_R scr (d + 1) 332 82 [some (.ref t0), some (.int x1), some (.int x2), some (.int 0), none, none] [] (S, I, L, R)) := Eq.trans (r_zne d332_71 rfl) (q_ite (Eq.trans (r_al_n d332_74 rfl) (Eq.trans (r_ic d332_75 kI_5) (r_cvE (as := [.int 5]) (r := []) d332_76 c332_322 ow265 o_t0.2.1 np265.symm rfl (hs_fitE mL265 (Nat.le_of_ble_eq_true rfl))))) (Eq.trans (r_ic d332_80 kI_0) (Eq.trans (r_is_n (loc' := [some (.ref t0), some (.int x1), some (.int x2), some (.int 0), none, none]) d332_81 rfl) (rfl))))
theorem b332_79 {t0 : Nat} {x1 x2 s0 : Int32}  : hs_R scr d 332 79 [some (.ref t0), some (.int x1), some (.int x2), none, none, none] [.int s0] (S, I, L, R) = some (some (.int s0), (S, I, L, R)) := r_ri d332_79 rt332
theorem b332_82 {t0 : Nat} {x1 x2 x3 : Int32} (o_t0 : ok11 S R t0) : hs_R scr (d + 1) 332 82 [some (.ref t0), some (.int x1), some (.int x2), some (.int x3), none, none] [] (S, I, L, R) = (if ((2 : Int32) * x2) ≤ x3 then ((hs_C scr d 306 [.ref t0] (S, I, L, R)).bind fun o => hs_R scr (d + 1) 332 144 [some (.ref t0), some (.int x1), some (.int x2), some (.int (((1 : Int32) <<< ((I (t0 + 5) 0) &&& 31)) - 1)), none, none] (o.1.toList ++ []) o.2) else ((hs_C scr d 333 [.ref t0, .int x1, .int x3] (S, I, L, R)).bind fun o => hs_R scr (d + 1) 332 95 [some (.ref t0), some (.int x1), some (.int x2), some (.int x3), none, none] (o.1.toList ++ []) o.2)) := Eq.trans (r_il_n d332_82 rfl) (Eq.trans (r_ic d332_83 kI_2) (Eq.trans (r_il_n d332_84 rfl) (Eq.trans (r_imul d332_85) (Eq.trans (r_cge d332_86 rfl) (q_ite (Eq.trans (r_ic d332_129 kI_1) (Eq.trans (r_al_n d332_130 rfl) (Eq.trans (r_getRe d332_131 f332_35 o_t0.2.1 (o_t0.2.2.2.2.2.2.2.2.2.2.1) (Nat.le_trans o_t0.1 (Nat.le_add_right _ _))) (Eq.trans (r_ic d332_134 kI_0) (Eq.trans ((r_ialdC d332_135 (o_t0.2.2.2.2.2.2.2.2.2.2.2.1) ib_0_1995 tn_0)) (Eq.trans (r_ishl d332_136) (Eq.trans (r_ic d332_137 kI_1) (Eq.trans (r_isub d332_138) (Eq.trans (r_is_n (loc' := [some (.ref t0), some (.int x1), some (.int x2), some (.int (((1 : Int32) <<< ((I (t0 + 5) 0) &&& 31)) - 1)), none, none]) d332_139 rfl) (Eq.trans (r_al_n d332_140 rfl) (r_cvE (as := []) (r := []) d332_141 c332_399 ow306 o_t0.2.1 np306.symm rfl (hs_fitE mL306 (Nat.le_of_ble_eq_true rfl))))))))))))) (Eq.trans (r_al_n d332_89 rfl) (Eq.trans (r_il_n d332_90 rfl) (Eq.trans (r_il_n d332_91 rfl) (r_cvE (as := [.int x1, .int x3]) (r := []) d332_92 c332_441 ow333 o_t0.2.1 np333.symm rfl (hs_fitE mL333 (Nat.le_of_ble_eq_true rfl)))))))))))
theorem b332_95 {t0 : Nat} {x1 x2 x3 : Int32} {v0 : Int64}  : hs_R scr d 332 95 [some (.ref t0), some (.int x1), some (.int x2), some (.int x3), none, none] [.long v0] (S, I, L, R) = (if (x3 - x3 / 2 * 2) = 0 then hs_R scr d 332 111 [some (.ref t0), some (.int x1), some (.int x2), some (.int x3), none, none] [.long 200, .long 0, .long v0] (S, I, L, R) else hs_R scr d 332 111 [some (.ref t0), some (.int x1), some (.int x2), some (.int x3), none, none] [.long 99, .long 0, .long v0] (S, I, L, R)) := Eq.trans (r_lc d332_95 kL_0) (Eq.trans (r_il_n d332_96 rfl) (Eq.trans (r_ic d332_97 kI_2) (Eq.trans ((r_irem d332_98).trans (if_neg nzI_2)) (Eq.trans (r_zne d332_99 rfl) (q_ite (Eq.trans (r_ldc2 d332_102 cl332_397) (Eq.trans (r_goto d332_105 rfl) (rfl))) (Eq.trans (r_ldc2 d332_108 cl332_359) (rfl)))))))
theorem b332_111 {t0 : Nat} {x1 x2 x3 : Int32} {v0 v1 v2 : Int64}  : hs_R scr (d + 1) 332 111 [some (.ref t0), some (.int x1), some (.int x2), some (.int x3), none, none] [.long v2, .long v1, .long v0] (S, I, L, R) = ((hs_C scr d 223 [.long v0, .long v1, .long v2] (S, I, L, R)).bind fun o => hs_R scr (d + 1) 332 114 [some (.ref t0), some (.int x1), some (.int x2), some (.int x3), none, none] (o.1.toList ++ []) o.2) := r_cs (as := [.long v0, .long v1, .long v2]) (r := []) d332_111 c332_95 np223.symm rfl (hs_fitE mL223 (Nat.le_of_ble_eq_true rfl))
theorem b332_114 {t0 : Nat} {x1 x2 x3 s0 : Int32} (o_t0 : ok11 S R t0) : hs_R scr (d + 1) 332 114 [some (.ref t0), some (.int x1), some (.int x2), some (.int x3), none, none] [.int s0] (S, I, L, R) = (if s0 = 0 then ((hs_C scr d 265 [.ref t0, .int 5] (S, I, L, R)).bind fun o => hs_R scr (d + 1) 332 122 [some (.ref t0), some (.int x1), some (.int x2), some (.int x3), none, none] (o.1.toList ++ []) o.2) else hs_R scr (d + 1) 332 82 [some (.ref t0), some (.int x1), some (.int x2), some (.int (x3 + 1)), none, none] [] (S, I, L, R)) := Eq.trans (r_zne d332_114 rfl) (q_ite (Eq.trans (r_al_n d332_117 rfl) (Eq.trans (r_ic d332_118 kI_5) (r_cvE (as := [.int 5]) (r := []) d332_119 c332_322 ow265 o_t0.2.1 np265.symm rfl (hs_fitE mL265 (Nat.le_of_ble_eq_true rfl))))) (Eq.trans (r_inc (loc' := [some (.ref t0), some (.int x1), some (.int x2), some (.int (x3 + 1)), none, none]) d332_123 kI_1 rfl rfl) (Eq.trans (r_goto d332_126 rfl) (rfl))))
theorem b332_122 {t0 : Nat} {x1 x2 x3 s0 : Int32}  : hs_R scr d 332 122 [some (.ref t0), some (.int x1), some (.int x2), some (.int x3), none, none] [.int s0] (S, I, L, R) = some (some (.int s0), (S, I, L, R)) := r_ri d332_122 rt332
theorem b332_144 {t0 : Nat} {x1 x2 x3 : Int32}  : hs_R scr d 332 144 [some (.ref t0), some (.int x1), some (.int x2), some (.int x3), none, none] [] (S, I, L, R) = hs_R scr d 332 147 [some (.ref t0), some (.int x1), some (.int x2), some (.int x3), some (.int 0), none] [] (S, I, L, R) := Eq.trans (r_ic d332_144 kI_0) (Eq.trans (r_is (loc' := [some (.ref t0), some (.int x1), some (.int x2), some (.int x3), some (.int 0), none]) d332_145 rfl) (rfl))
theorem b332_147 {t0 : Nat} {x1 x2 x3 x4 : Int32} {w5 : Option Value}  : hs_R scr d 332 147 [some (.ref t0), some (.int x1), some (.int x2), some (.int x3), some (.int x4), w5] [] (S, I, L, R) = (if (200 : Int32) < x4 then hs_R scr d 332 219 [some (.ref t0), some (.int x1), some (.int x2), some (.int x3), some (.int x4), w5] [] (S, I, L, R) else (if x2 ≤ 0 then hs_R scr d 332 219 [some (.ref t0), some (.int x1), some (.int x2), some (.int x3), some (.int x4), w5] [] (S, I, L, R) else hs_R scr d 332 162 [some (.ref t0), some (.int x1), some (.int x2), some (.int x3), some (.int x4), some (.int 0)] [] (S, I, L, R))) := Eq.trans (r_il d332_147 rfl) (Eq.trans (r_sp d332_149 kS_200) (Eq.trans (r_cgt d332_152 rfl) (q_ite (rfl) (Eq.trans (r_il_n d332_155 rfl) (Eq.trans (r_zle d332_156 rfl) (q_ite (rfl) (Eq.trans (r_ic d332_159 kI_0) (Eq.trans (r_is (loc' := [some (.ref t0), some (.int x1), some (.int x2), some (.int x3), some (.int x4), some (.int 0)]) d332_160 rfl) (rfl)))))))))
theorem b332_162 {t0 : Nat} {x1 x2 x3 x4 x5 : Int32} (o_t0 : ok11 S R t0) : hs_R scr (d + 1) 332 162 [some (.ref t0), some (.int x1), some (.int x2), some (.int x3), some (.int x4), some (.int x5)] [] (S, I, L, R) = (if x2 ≤ x5 then ((hs_C scr d 284 [.ref t0] (S, I, L, R)).bind fun o => hs_R scr (d + 1) 332 213 [some (.ref t0), some (.int x1), some (.int x2), some (.int x3), some (.int x4), some (.int x5)] (o.1.toList ++ []) o.2) else ((hs_C scr d 333 [.ref t0, .int x1, .int ((2 : Int32) * x5)] (S, I, L, R)).bind fun o => hs_R scr (d + 1) 332 177 [some (.ref t0), some (.int x1), some (.int x2), some (.int x3), some (.int x4), some (.int x5)] (o.1.toList ++ []) o.2)) := Eq.trans (r_il d332_162 rfl) (Eq.trans (r_il_n d332_164 rfl) (Eq.trans (r_cge d332_165 rfl) (q_ite (Eq.trans (r_al_n d332_209 rfl) (r_cvE (as := []) (r := []) d332_210 c332_361 ow284 o_t0.2.1 np284.symm rfl (hs_fitE mL284 (Nat.le_of_ble_eq_true rfl)))) (Eq.trans (r_al_n d332_168 rfl) (Eq.trans (r_il_n d332_169 rfl) (Eq.trans (r_ic d332_170 kI_2) (Eq.trans (r_il d332_171 rfl) (Eq.trans (r_imul d332_173) (r_cvE (as := [.int x1, .int ((2 : Int32) * x5)]) (r := []) d332_174 c332_441 ow333 o_t0.2.1 np333.symm rfl (hs_fitE mL333 (Nat.le_of_ble_eq_true rfl)))))))))))
theorem b332_177 {t0 : Nat} {x1 x2 x3 x4 x5 : Int32} {v0 : Int64} (o_t0 : ok11 S R t0) : hs_R scr (d + 1) 332 177 [some (.ref t0), some (.int x1), some (.int x2), some (.int x3), some (.int x4), some (.int x5)] [.long v0] (S, I, L, R) = (if (lg_cmp v0 (Int32.toInt64 x4)) = 0 then ((hs_C scr d 333 [.ref t0, .int x1, .int (((2 : Int32) * x5) + 1)] (S, I, L, R)).bind fun o => hs_R scr (d + 1) 332 197 [some (.ref t0), some (.int x1), some (.int x2), some (.int x3), some (.int x4), some (.int x5)] (o.1.toList ++ [.ref t0, .int x3]) o.2) else hs_R scr (d + 1) 332 203 [some (.ref t0), some (.int x1), some (.int x2), some (.int x3), some (.int x4), some (.int x5)] [] (S, I, L, R)) := Eq.trans (r_il d332_177 rfl) (Eq.trans (r_i2l d332_179) (Eq.trans (r_lcmp d332_180) (Eq.trans (r_zne d332_181 rfl) (q_ite (Eq.trans (r_il_n d332_184 rfl) (Eq.trans (r_al_n d332_185 rfl) (Eq.trans (r_al_n d332_186 rfl) (Eq.trans (r_il_n d332_187 rfl) (Eq.trans (r_ic d332_188 kI_2) (Eq.trans (r_il d332_189 rfl) (Eq.trans (r_imul d332_191) (Eq.trans (r_ic d332_192 kI_1) (Eq.trans (r_iadd d332_193) (r_cvE (as := [.int x1, .int (((2 : Int32) * x5) + 1)]) (r := [.ref t0, .int x3]) d332_194 c332_441 ow333 o_t0.2.1 np333.symm rfl (hs_fitE mL333 (Nat.le_of_ble_eq_true rfl)))))))))))) (rfl)))))
theorem b332_197 {t0 u1 : Nat} {x1 x2 x3 x4 x5 s0 : Int32} {v2 : Int64} (o_u1 : ok11 S R u1) : hs_R scr (d + 1) 332 197 [some (.ref t0), some (.int x1), some (.int x2), some (.int x3), some (.int x4), some (.int x5)] [.long v2, .ref u1, .int s0] (S, I, L, R) = ((hs_C scr d 334 [.ref u1, .int (Int64.toInt32 v2)] (S, I, L, R)).bind fun o => hs_R scr (d + 1) 332 201 [some (.ref t0), some (.int x1), some (.int x2), some (.int x3), some (.int x4), some (.int x5)] (o.1.toList ++ [.int s0]) o.2) := Eq.trans (r_l2i d332_197) (r_cvE (as := [.int (Int64.toInt32 v2)]) (r := [.int s0]) d332_198 c332_445 ow334 o_u1.2.1 np334.symm rfl (hs_fitE mL334 (Nat.le_of_ble_eq_true rfl)))
theorem b332_201 {t0 : Nat} {x1 x2 x3 x4 x5 s0 s1 : Int32}  : hs_R scr d 332 201 [some (.ref t0), some (.int x1), some (.int x2), some (.int x3), some (.int x4), some (.int x5)] [.int s1, .int s0] (S, I, L, R) = hs_R scr d 332 203 [some (.ref t0), some (.int x1), some (.int x2), some (.int (s0 &&& s1)), some (.int x4), some (.int x5)] [] (S, I, L, R) := Eq.trans (r_iand d332_201) (Eq.trans (r_is_n (loc' := [some (.ref t0), some (.int x1), some (.int x2), some (.int (s0 &&& s1)), some (.int x4), some (.int x5)]) d332_202 rfl) (rfl))
theorem b332_203 {t0 : Nat} {x1 x2 x3 x4 x5 : Int32}  : hs_R scr d 332 203 [some (.ref t0), some (.int x1), some (.int x2), some (.int x3), some (.int x4), some (.int x5)] [] (S, I, L, R) = hs_R scr d 332 162 [some (.ref t0), some (.int x1), some (.int x2), some (.int x3), some (.int x4), some (.int (x5 + 1))] [] (S, I, L, R) := Eq.trans (r_inc (loc' := [some (.ref t0), some (.int x1), some (.int x2), some (.int x3), some (.int x4), some (.int (x5 + 1))]) d332_203 kI_1 rfl rfl) (Eq.trans (r_goto d332_206 rfl) (rfl))
theorem b332_213 {t0 : Nat} {x1 x2 x3 x4 x5 : Int32}  : hs_R scr d 332 213 [some (.ref t0), some (.int x1), some (.int x2), some (.int x3), some (.int x4), some (.int x5)] [] (S, I, L, R) = hs_R scr d 332 147 [some (.ref t0), some (.int x1), some (.int x2), some (.int x3), some (.int (x4 + 1)), some (.int x5)] [] (S, I, L, R) := Eq.trans (r_inc (loc' := [some (.ref t0), some (.int x1), some (.int x2), some (.int x3), some (.int (x4 + 1)), some (.int x5)]) d332_213 kI_1 rfl rfl) (Eq.trans (r_goto d332_216 rfl) (rfl))
theorem b332_219 {t0 : Nat} {x1 x2 x3 x4 : Int32} {w5 : Option Value} (o_t0 : ok11 S R t0) : hs_R scr (d + 1) 332 219 [some (.ref t0), some (.int x1), some (.int x2), some (.int x3), some (.int x4), w5] [] (S, I, L, R) = ((hs_C scr d 307 [.ref t0] (S, I, L, R)).bind fun o => hs_R scr (d + 1) 332 223 [some (.ref t0), some (.int x1), some (.int x2), some (.int x3), some (.int x4), w5] (o.1.toList ++ []) o.2) := Eq.trans (r_al_n d332_219 rfl) (r_cvE (as := []) (r := []) d332_220 c332_402 ow307 o_t0.2.1 np307.symm rfl (hs_fitE mL307 (Nat.le_of_ble_eq_true rfl)))
theorem b332_223 {t0 : Nat} {x1 x2 x3 x4 : Int32} {w5 : Option Value}  : hs_R scr d 332 223 [some (.ref t0), some (.int x1), some (.int x2), some (.int x3), some (.int x4), w5] [] (S, I, L, R) = some (some (.int x3), (S, I, L, R)) := Eq.trans (r_il_n d332_223 rfl) (r_ri d332_224 rt332)
theorem e333 {t0 : Nat} {x1 : Int32} {x2 : Int32} : hs_C scr d 333 [.ref t0, .int x1, .int x2] h = hs_R scr d 333 0 [some (.ref t0), some (.int x1), some (.int x2)] [] h := by rw [hs_C, mL333]; rfl
theorem b333_0 {t0 : Nat} {x1 x2 : Int32} (o_t0 : ok11 S R t0) : hs_R scr d 333 0 [some (.ref t0), some (.int x1), some (.int x2)] [] (S, I, L, R) = (if hs_ib (((60 : Int32) * x1) + x2) 240 = true then some (some (.long (L (t0 + 3) (Int32.toNatClampNeg (((60 : Int32) * x1) + x2)))), (S, I, L, R)) else none) := Eq.trans (r_al_n d333_0 rfl) (Eq.trans (r_getRe d333_1 f333_20 o_t0.2.1 (o_t0.2.2.2.2.2.2.1) (Nat.le_trans o_t0.1 (Nat.le_add_right _ _))) (Eq.trans (r_bp d333_4 kB_60) (Eq.trans (r_il_n d333_6 rfl) (Eq.trans (r_imul d333_7) (Eq.trans (r_il_n d333_8 rfl) (Eq.trans (r_iadd d333_9) (Eq.trans (r_lald d333_10 (o_t0.2.2.2.2.2.2.2.1)) (q_ite (r_rl d333_11 rt333) rfl))))))))
theorem e334 {t0 : Nat} {x1 : Int32} : hs_C scr d 334 [.ref t0, .int x1] h = hs_R scr d 334 0 [some (.ref t0), some (.int x1), none, none] [] h := by rw [hs_C, mL334]; rfl
theorem b334_0 {t0 : Nat} {x1 : Int32}  : hs_R scr d 334 0 [some (.ref t0), some (.int x1), none, none] [] (S, I, L, R) = hs_R scr d 334 4 [some (.ref t0), some (.int x1), some (.int 0), some (.int 0)] [] (S, I, L, R) := Eq.trans (r_ic d334_0 kI_0) (Eq.trans (r_is_n (loc' := [some (.ref t0), some (.int x1), some (.int 0), none]) d334_1 rfl) (Eq.trans (r_ic d334_2 kI_0) (Eq.trans (r_is_n (loc' := [some (.ref t0), some (.int x1), some (.int 0), some (.int 0)]) d334_3 rfl) (rfl))))
theorem b334_4 {t0 : Nat} {x1 x2 x3 : Int32} (o_t0 : ok11 S R t0) : hs_R scr d 334 4 [some (.ref t0), some (.int x1), some (.int x2), some (.int x3)] [] (S, I, L, R) = (if (I (t0 + 5) 0) ≤ x3 then some (some (.int x2), (S, I, L, R)) else (if hs_ib ((10 : Int32) + x3) 1995 = true then (if (I (t0 + 5) (Int32.toNatClampNeg ((10 : Int32) + x3))) = x1 then hs_R scr d 334 35 [some (.ref t0), some (.int x1), some (.int x2), some (.int x3)] [.int ((1 : Int32) <<< (x3 &&& 31)), .int x2] (S, I, L, R) else hs_R scr d 334 35 [some (.ref t0), some (.int x1), some (.int x2), some (.int x3)] [.int 0, .int x2] (S, I, L, R)) else none)) := Eq.trans (r_il_n d334_4 rfl) (Eq.trans (r_al_n d334_5 rfl) (Eq.trans (r_getRe d334_6 f334_35 o_t0.2.1 (o_t0.2.2.2.2.2.2.2.2.2.2.1) (Nat.le_trans o_t0.1 (Nat.le_add_right _ _))) (Eq.trans (r_ic d334_9 kI_0) (Eq.trans ((r_ialdC d334_10 (o_t0.2.2.2.2.2.2.2.2.2.2.2.1) ib_0_1995 tn_0)) (Eq.trans (r_cge d334_11 rfl) (q_ite (Eq.trans (r_il_n d334_43 rfl) (r_ri d334_44 rt334)) (Eq.trans (r_il_n d334_14 rfl) (Eq.trans (r_al_n d334_15 rfl) (Eq.trans (r_getRe d334_16 f334_35 o_t0.2.1 (o_t0.2.2.2.2.2.2.2.2.2.2.1) (Nat.le_trans o_t0.1 (Nat.le_add_right _ _))) (Eq.trans (r_bp d334_19 kB_10) (Eq.trans (r_il_n d334_21 rfl) (Eq.trans (r_iadd d334_22) (Eq.trans (r_iald d334_23 (o_t0.2.2.2.2.2.2.2.2.2.2.2.1)) (q_ite (Eq.trans (r_il_n d334_24 rfl) (Eq.trans (r_cne d334_25 rfl) (q_ite (Eq.trans (r_ic d334_28 kI_1) (Eq.trans (r_il_n d334_29 rfl) (Eq.trans (r_ishl d334_30) (Eq.trans (r_goto d334_31 rfl) (rfl))))) (Eq.trans (r_ic d334_34 kI_0) (rfl))))) rfl))))))))))))))
theorem b334_35 {t0 : Nat} {x1 x2 x3 s0 s1 : Int32}  : hs_R scr d 334 35 [some (.ref t0), some (.int x1), some (.int x2), some (.int x3)] [.int s1, .int s0] (S, I, L, R) = hs_R scr d 334 4 [some (.ref t0), some (.int x1), some (.int (s0 ||| s1)), some (.int (x3 + 1))] [] (S, I, L, R) := Eq.trans (r_ior d334_35) (Eq.trans (r_is_n (loc' := [some (.ref t0), some (.int x1), some (.int (s0 ||| s1)), some (.int x3)]) d334_36 rfl) (Eq.trans (r_inc (loc' := [some (.ref t0), some (.int x1), some (.int (s0 ||| s1)), some (.int (x3 + 1))]) d334_37 kI_1 rfl rfl) (Eq.trans (r_goto d334_40 rfl) (rfl))))
theorem e335 {t0 : Nat} : hs_C scr d 335 [.ref t0] h = hs_R scr d 335 0 [some (.ref t0), none] [] h := by rw [hs_C, mL335]; rfl
theorem b335_0 {t0 : Nat} (o_t0 : ok11 S R t0) : hs_R scr (d + 1) 335 0 [some (.ref t0), none] [] (S, I, L, R) = ((hs_C scr d 336 [.ref t0] (S, (hs_u (hs_u I t0 1 0) t0 0 0), L, R)).bind fun o => hs_R scr (d + 1) 335 14 [some (.ref t0), none] (o.1.toList ++ []) o.2) := Eq.trans (r_al_n d335_0 rfl) (Eq.trans (r_ic d335_1 kI_0) (Eq.trans (r_putI d335_2 f335_60 o_t0.2.1) (Eq.trans (r_al_n d335_5 rfl) (Eq.trans (r_ic d335_6 kI_0) (Eq.trans (r_putI d335_7 f335_63 o_t0.2.1) (Eq.trans (r_al_n d335_10 rfl) (r_cvE (as := []) (r := []) d335_11 c335_448 ow336 o_t0.2.1 np336.symm rfl (hs_fitE mL336 (Nat.le_of_ble_eq_true rfl)))))))))
theorem b335_14 {t0 : Nat} {s0 : Int32} (o_t0 : ok11 S R t0) : hs_R scr (d + 1) 335 14 [some (.ref t0), none] [.int s0] (S, I, L, R) = (if (0 : Int32) ≤ s0 then ((hs_C scr d 321 [.int s0] (S, I, L, R)).bind fun o => hs_R scr (d + 1) 335 32 [some (.ref t0), some (.int s0)] (o.1.toList ++ []) o.2) else ((hs_C scr d 265 [.ref t0, .int 8] (S, I, L, R)).bind fun o => hs_R scr (d + 1) 335 25 [some (.ref t0), some (.int s0)] (o.1.toList ++ []) o.2)) := Eq.trans (r_is_n (loc' := [some (.ref t0), some (.int s0)]) d335_14 rfl) (Eq.trans (r_il_n d335_15 rfl) (Eq.trans (r_zge d335_16 rfl) (q_ite (Eq.trans (r_il_n d335_28 rfl) (r_cs (as := [.int s0]) (r := []) d335_29 c335_424 np321.symm rfl (hs_fitE mL321 (Nat.le_of_ble_eq_true rfl)))) (Eq.trans (r_al_n d335_19 rfl) (Eq.trans (r_bp d335_20 kB_8) (r_cvE (as := [.int 8]) (r := []) d335_22 c335_322 ow265 o_t0.2.1 np265.symm rfl (hs_fitE mL265 (Nat.le_of_ble_eq_true rfl))))))))
theorem b335_25 {t0 : Nat} {x1 s0 : Int32}  : hs_R scr d 335 25 [some (.ref t0), some (.int x1)] [.int s0] (S, I, L, R) = hs_R scr d 335 32 [some (.ref t0), some (.int x1)] [.int s0] (S, I, L, R) := Eq.trans (r_goto d335_25 rfl) (rfl)
theorem b335_32 {t0 : Nat} {x1 s0 : Int32}  : hs_R scr d 335 32 [some (.ref t0), some (.int x1)] [.int s0] (S, I, L, R) = some (some (.int s0), (S, I, L, R)) := r_ri d335_32 rt335
theorem e336 {t0 : Nat} : hs_C scr d 336 [.ref t0] h = hs_R scr d 336 0 [some (.ref t0), none, none, none, none, none] [] h := by rw [hs_C, mL336]; rfl
theorem b336_0 {t0 : Nat} (o_t0 : ok11 S R t0) : hs_R scr d 336 0 [some (.ref t0), none, none, none, none, none] [] (S, I, L, R) = hs_R scr d 336 15 [some (.ref t0), some (.int (((1 : Int32) <<< ((I (t0 + 5) 4) &&& 31)) - 1)), some (.int (-1)), some (.int 0), none, none] [] (S, I, L, R) := Eq.trans (r_ic d336_0 kI_1) (Eq.trans (r_al_n d336_1 rfl) (Eq.trans (r_getRe d336_2 f336_35 o_t0.2.1 (o_t0.2.2.2.2.2.2.2.2.2.2.1) (Nat.le_trans o_t0.1 (Nat.le_add_right _ _))) (Eq.trans (r_ic d336_5 kI_4) (Eq.trans ((r_ialdC d336_6 (o_t0.2.2.2.2.2.2.2.2.2.2.2.1) ib_4_1995 tn_4)) (Eq.trans (r_ishl d336_7) (Eq.trans (r_ic d336_8 kI_1) (Eq.trans (r_isub d336_9) (Eq.trans (r_is_n (loc' := [some (.ref t0), some (.int (((1 : Int32) <<< ((I (t0 + 5) 4) &&& 31)) - 1)), none, none, none, none]) d336_10 rfl) (Eq.trans (r_ic d336_11 kI_m1) (Eq.trans (r_is_n (loc' := [some (.ref t0), some (.int (((1 : Int32) <<< ((I (t0 + 5) 4) &&& 31)) - 1)), some (.int (-1)), none, none, none]) d336_12 rfl) (Eq.trans (r_ic d336_13 kI_0) (Eq.trans (r_is_n (loc' := [some (.ref t0), some (.int (((1 : Int32) <<< ((I (t0 + 5) 4) &&& 31)) - 1)), some (.int (-1)), some (.int 0), none, none]) d336_14 rfl) (rfl)))))))))))))
theorem b336_15 {t0 : Nat} {x1 x2 x3 : Int32} {w4 w5 : Option Value} (o_t0 : ok11 S R t0) : hs_R scr d 336 15 [some (.ref t0), some (.int x1), some (.int x2), some (.int x3), w4, w5] [] (S, I, L, R) = (if ((1 : Int32) <<< ((I (t0 + 5) 5) &&& 31)) ≤ x3 then some (some (.int x2), (S, I, L, R)) else hs_R scr d 336 33 [some (.ref t0), some (.int x1), some (.int x2), some (.int x3), some (.int 0), some (.int 0)] [] (S, I, L, R)) := Eq.trans (r_il_n d336_15 rfl) (Eq.trans (r_ic d336_16 kI_1) (Eq.trans (r_al_n d336_17 rfl) (Eq.trans (r_getRe d336_18 f336_35 o_t0.2.1 (o_t0.2.2.2.2.2.2.2.2.2.2.1) (Nat.le_trans o_t0.1 (Nat.le_add_right _ _))) (Eq.trans (r_ic d336_21 kI_5) (Eq.trans ((r_ialdC d336_22 (o_t0.2.2.2.2.2.2.2.2.2.2.2.1) ib_5_1995 tn_5)) (Eq.trans (r_ishl d336_23) (Eq.trans (r_cge d336_24 rfl) (q_ite (Eq.trans (r_il_n d336_122 rfl) (r_ri d336_123 rt336)) (Eq.trans (r_ic d336_27 kI_0) (Eq.trans (r_is (loc' := [some (.ref t0), some (.int x1), some (.int x2), some (.int x3), some (.int 0), w5]) d336_28 rfl) (Eq.trans (r_ic d336_30 kI_0) (Eq.trans (r_is (loc' := [some (.ref t0), some (.int x1), some (.int x2), some (.int x3), some (.int 0), some (.int 0)]) d336_31 rfl) (rfl)))))))))))))
theorem b336_33 {t0 : Nat} {x1 x2 x3 x4 x5 : Int32} (o_t0 : ok11 S R t0) : hs_R scr (d + 1) 336 33 [some (.ref t0), some (.int x1), some (.int x2), some (.int x3), some (.int x4), some (.int x5)] [] (S, I, L, R) = (if (I (t0 + 5) 5) ≤ x5 then (if x4 = x1 then (if x2 < 0 then hs_R scr (d + 1) 336 114 [some (.ref t0), some (.int x1), some (.int x2), some (.int x3), some (.int x4), some (.int x5)] [] (S, I, L, R) else ((hs_C scr d 321 [.int x3] (S, I, L, R)).bind fun o => hs_R scr (d + 1) 336 107 [some (.ref t0), some (.int x1), some (.int x2), some (.int x3), some (.int x4), some (.int x5)] (o.1.toList ++ []) o.2)) else hs_R scr (d + 1) 336 116 [some (.ref t0), some (.int x1), some (.int x2), some (.int x3), some (.int x4), some (.int x5)] [] (S, I, L, R)) else ((hs_C scr d 219 [.int x3, .int x5] (S, I, L, R)).bind fun o => hs_R scr (d + 1) 336 52 [some (.ref t0), some (.int x1), some (.int x2), some (.int x3), some (.int x4), some (.int x5)] (o.1.toList ++ [.int x4]) o.2)) := Eq.trans (r_il d336_33 rfl) (Eq.trans (r_al_n d336_35 rfl) (Eq.trans (r_getRe d336_36 f336_35 o_t0.2.1 (o_t0.2.2.2.2.2.2.2.2.2.2.1) (Nat.le_trans o_t0.1 (Nat.le_add_right _ _))) (Eq.trans (r_ic d336_39 kI_5) (Eq.trans ((r_ialdC d336_40 (o_t0.2.2.2.2.2.2.2.2.2.2.2.1) ib_5_1995 tn_5)) (Eq.trans (r_cge d336_41 rfl) (q_ite (Eq.trans (r_il d336_93 rfl) (Eq.trans (r_il_n d336_95 rfl) (Eq.trans (r_cne d336_96 rfl) (q_ite (Eq.trans (r_il_n d336_99 rfl) (Eq.trans (r_zlt d336_100 rfl) (q_ite (rfl) (Eq.trans (r_il_n d336_103 rfl) (r_cs (as := [.int x3]) (r := []) d336_104 c336_424 np321.symm rfl (hs_fitE mL321 (Nat.le_of_ble_eq_true rfl))))))) (rfl))))) (Eq.trans (r_il d336_44 rfl) (Eq.trans (r_il_n d336_46 rfl) (Eq.trans (r_il d336_47 rfl) (r_cs (as := [.int x3, .int x5]) (r := [.int x4]) d336_49 c336_99 np219.symm rfl (hs_fitE mL219 (Nat.le_of_ble_eq_true rfl))))))))))))
theorem b336_52 {t0 : Nat} {x1 x2 x3 x4 x5 s0 s1 : Int32} (o_t0 : ok11 S R t0) : hs_R scr d 336 52 [some (.ref t0), some (.int x1), some (.int x2), some (.int x3), some (.int x4), some (.int x5)] [.int s1, .int s0] (S, I, L, R) = (if s1 = 0 then hs_R scr d 336 84 [some (.ref t0), some (.int x1), some (.int x2), some (.int x3), some (.int x4), some (.int x5)] [.int 0, .int s0] (S, I, L, R) else (if hs_ib ((107 : Int32) + x5) 1995 = true then (if hs_ib ((117 : Int32) + x5) 1995 = true then hs_R scr d 336 84 [some (.ref t0), some (.int x1), some (.int x2), some (.int x3), some (.int x4), some (.int x5)] [.int (((1 : Int32) <<< ((I (t0 + 5) (Int32.toNatClampNeg ((107 : Int32) + x5))) &&& 31)) ||| ((1 : Int32) <<< ((I (t0 + 5) (Int32.toNatClampNeg ((117 : Int32) + x5))) &&& 31))), .int s0] (S, I, L, R) else none) else none)) := Eq.trans (r_zeq d336_52 rfl) (q_ite (Eq.trans (r_ic d336_83 kI_0) (rfl)) (Eq.trans (r_ic d336_55 kI_1) (Eq.trans (r_al_n d336_56 rfl) (Eq.trans (r_getRe d336_57 f336_35 o_t0.2.1 (o_t0.2.2.2.2.2.2.2.2.2.2.1) (Nat.le_trans o_t0.1 (Nat.le_add_right _ _))) (Eq.trans (r_bp d336_60 kB_107) (Eq.trans (r_il d336_62 rfl) (Eq.trans (r_iadd d336_64) (Eq.trans (r_iald d336_65 (o_t0.2.2.2.2.2.2.2.2.2.2.2.1)) (q_ite (Eq.trans (r_ishl d336_66) (Eq.trans (r_ic d336_67 kI_1) (Eq.trans (r_al_n d336_68 rfl) (Eq.trans (r_getRe d336_69 f336_35 o_t0.2.1 (o_t0.2.2.2.2.2.2.2.2.2.2.1) (Nat.le_trans o_t0.1 (Nat.le_add_right _ _))) (Eq.trans (r_bp d336_72 kB_117) (Eq.trans (r_il d336_74 rfl) (Eq.trans (r_iadd d336_76) (Eq.trans (r_iald d336_77 (o_t0.2.2.2.2.2.2.2.2.2.2.2.1)) (q_ite (Eq.trans (r_ishl d336_78) (Eq.trans (r_ior d336_79) (Eq.trans (r_goto d336_80 rfl) (rfl)))) rfl))))))))) rfl)))))))))
theorem b336_84 {t0 : Nat} {x1 x2 x3 x4 x5 s0 s1 : Int32}  : hs_R scr d 336 84 [some (.ref t0), some (.int x1), some (.int x2), some (.int x3), some (.int x4), some (.int x5)] [.int s1, .int s0] (S, I, L, R) = hs_R scr d 336 33 [some (.ref t0), some (.int x1), some (.int x2), some (.int x3), some (.int (s0 ||| s1)), some (.int (x5 + 1))] [] (S, I, L, R) := Eq.trans (r_ior d336_84) (Eq.trans (r_is (loc' := [some (.ref t0), some (.int x1), some (.int x2), some (.int x3), some (.int (s0 ||| s1)), some (.int x5)]) d336_85 rfl) (Eq.trans (r_inc (loc' := [some (.ref t0), some (.int x1), some (.int x2), some (.int x3), some (.int (s0 ||| s1)), some (.int (x5 + 1))]) d336_87 kI_1 rfl rfl) (Eq.trans (r_goto d336_90 rfl) (rfl))))
theorem b336_107 {t0 : Nat} {x1 x2 x3 x4 x5 s0 : Int32}  : hs_R scr (d + 1) 336 107 [some (.ref t0), some (.int x1), some (.int x2), some (.int x3), some (.int x4), some (.int x5)] [.int s0] (S, I, L, R) = ((hs_C scr d 321 [.int x2] (S, I, L, R)).bind fun o => hs_R scr (d + 1) 336 111 [some (.ref t0), some (.int x1), some (.int x2), some (.int x3), some (.int x4), some (.int x5)] (o.1.toList ++ [.int s0]) o.2) := Eq.trans (r_il_n d336_107 rfl) (r_cs (as := [.int x2]) (r := [.int s0]) d336_108 c336_424 np321.symm rfl (hs_fitE mL321 (Nat.le_of_ble_eq_true rfl)))
theorem b336_111 {t0 : Nat} {x1 x2 x3 x4 x5 s0 s1 : Int32}  : hs_R scr d 336 111 [some (.ref t0), some (.int x1), some (.int x2), some (.int x3), some (.int x4), some (.int x5)] [.int s1, .int s0] (S, I, L, R) = (if s1 ≤ s0 then hs_R scr d 336 116 [some (.ref t0), some (.int x1), some (.int x2), some (.int x3), some (.int x4), some (.int x5)] [] (S, I, L, R) else hs_R scr d 336 114 [some (.ref t0), some (.int x1), some (.int x2), some (.int x3), some (.int x4), some (.int x5)] [] (S, I, L, R)) := Eq.trans (r_cge d336_111 rfl) (q_ite (rfl) (rfl))
theorem b336_114 {t0 : Nat} {x1 x2 x3 x4 x5 : Int32}  : hs_R scr d 336 114 [some (.ref t0), some (.int x1), some (.int x2), some (.int x3), some (.int x4), some (.int x5)] [] (S, I, L, R) = hs_R scr d 336 116 [some (.ref t0), some (.int x1), some (.int x3), some (.int x3), some (.int x4), some (.int x5)] [] (S, I, L, R) := Eq.trans (r_il_n d336_114 rfl) (Eq.trans (r_is_n (loc' := [some (.ref t0), some (.int x1), some (.int x3), some (.int x3), some (.int x4), some (.int x5)]) d336_115 rfl) (rfl))
theorem b336_116 {t0 : Nat} {x1 x2 x3 x4 x5 : Int32}  : hs_R scr d 336 116 [some (.ref t0), some (.int x1), some (.int x2), some (.int x3), some (.int x4), some (.int x5)] [] (S, I, L, R) = hs_R scr d 336 15 [some (.ref t0), some (.int x1), some (.int x2), some (.int (x3 + 1)), some (.int x4), some (.int x5)] [] (S, I, L, R) := Eq.trans (r_inc (loc' := [some (.ref t0), some (.int x1), some (.int x2), some (.int (x3 + 1)), some (.int x4), some (.int x5)]) d336_116 kI_1 rfl rfl) (Eq.trans (r_goto d336_119 rfl) (rfl))
theorem e337 {t0 : Nat} : hs_C scr d 337 [.ref t0] h = hs_R scr d 337 0 [some (.ref t0), none] [] h := by rw [hs_C, mL337]; rfl
theorem b337_0 {t0 : Nat} (o_t0 : ok11 S R t0) : hs_R scr (d + 1) 337 0 [some (.ref t0), none] [] (S, I, L, R) = ((hs_C scr d 336 [.ref t0] (S, (hs_u (hs_u I t0 1 0) t0 0 0), L, R)).bind fun o => hs_R scr (d + 1) 337 14 [some (.ref t0), none] (o.1.toList ++ []) o.2) := Eq.trans (r_al_n d337_0 rfl) (Eq.trans (r_ic d337_1 kI_0) (Eq.trans (r_putI d337_2 f337_60 o_t0.2.1) (Eq.trans (r_al_n d337_5 rfl) (Eq.trans (r_ic d337_6 kI_0) (Eq.trans (r_putI d337_7 f337_63 o_t0.2.1) (Eq.trans (r_al_n d337_10 rfl) (r_cvE (as := []) (r := []) d337_11 c337_448 ow336 o_t0.2.1 np336.symm rfl (hs_fitE mL336 (Nat.le_of_ble_eq_true rfl)))))))))
theorem b337_14 {t0 : Nat} {s0 : Int32} (o_t0 : ok11 S R t0) : hs_R scr (d + 1) 337 14 [some (.ref t0), none] [.int s0] (S, I, L, R) = (if (0 : Int32) ≤ s0 then hs_R scr (d + 1) 337 29 [some (.ref t0), some (.int s0)] [.int s0] (S, I, L, R) else ((hs_C scr d 265 [.ref t0, .int 8] (S, I, L, R)).bind fun o => hs_R scr (d + 1) 337 25 [some (.ref t0), some (.int s0)] (o.1.toList ++ []) o.2)) := Eq.trans (r_is_n (loc' := [some (.ref t0), some (.int s0)]) d337_14 rfl) (Eq.trans (r_il_n d337_15 rfl) (Eq.trans (r_zge d337_16 rfl) (q_ite (Eq.trans (r_il_n d337_28 rfl) (rfl)) (Eq.trans (r_al_n d337_19 rfl) (Eq.trans (r_bp d337_20 kB_8) (r_cvE (as := [.int 8]) (r := []) d337_22 c337_322 ow265 o_t0.2.1 np265.symm rfl (hs_fitE mL265 (Nat.le_of_ble_eq_true rfl))))))))
theorem b337_25 {t0 : Nat} {x1 s0 : Int32}  : hs_R scr d 337 25 [some (.ref t0), some (.int x1)] [.int s0] (S, I, L, R) = hs_R scr d 337 29 [some (.ref t0), some (.int x1)] [.int s0] (S, I, L, R) := Eq.trans (r_goto d337_25 rfl) (rfl)
theorem b337_29 {t0 : Nat} {x1 s0 : Int32}  : hs_R scr d 337 29 [some (.ref t0), some (.int x1)] [.int s0] (S, I, L, R) = some (some (.int s0), (S, I, L, R)) := r_ri d337_29 rt337
theorem e338 {t0 : Nat} {x1 : Int32} : hs_C scr d 338 [.ref t0, .int x1] h = hs_R scr d 338 0 [some (.ref t0), some (.int x1), none, none] [] h := by rw [hs_C, mL338]; rfl
theorem b338_0 {t0 : Nat} {x1 : Int32} (o_t0 : ok11 S R t0) : hs_R scr (d + 1) 338 0 [some (.ref t0), some (.int x1), none, none] [] (S, I, L, R) = ((hs_C scr d 339 [.ref t0, .int x1] (S, (hs_u (hs_u I t0 1 0) t0 0 0), L, R)).bind fun o => hs_R scr (d + 1) 338 15 [some (.ref t0), some (.int x1), none, none] (o.1.toList ++ []) o.2) := Eq.trans (r_al_n d338_0 rfl) (Eq.trans (r_ic d338_1 kI_0) (Eq.trans (r_putI d338_2 f338_60 o_t0.2.1) (Eq.trans (r_al_n d338_5 rfl) (Eq.trans (r_ic d338_6 kI_0) (Eq.trans (r_putI d338_7 f338_63 o_t0.2.1) (Eq.trans (r_al_n d338_10 rfl) (Eq.trans (r_il_n d338_11 rfl) (r_cvE (as := [.int x1]) (r := []) d338_12 c338_451 ow339 o_t0.2.1 np339.symm rfl (hs_fitE mL339 (Nat.le_of_ble_eq_true rfl))))))))))
theorem b338_15 {t0 : Nat} {x1 s0 : Int32} (o_t0 : ok11 S R t0) : hs_R scr (d + 1) 338 15 [some (.ref t0), some (.int x1), none, none] [.int s0] (S, I, L, R) = (if s0 = 0 then ((hs_C scr d 265 [.ref t0, .int 2] (S, I, L, R)).bind fun o => hs_R scr (d + 1) 338 23 [some (.ref t0), some (.int x1), none, none] (o.1.toList ++ []) o.2) else hs_R scr (d + 1) 338 28 [some (.ref t0), some (.int x1), some (.int 0), some (.int 0)] [] (S, I, L, R)) := Eq.trans (r_zne d338_15 rfl) (q_ite (Eq.trans (r_al_n d338_18 rfl) (Eq.trans (r_ic d338_19 kI_2) (r_cvE (as := [.int 2]) (r := []) d338_20 c338_322 ow265 o_t0.2.1 np265.symm rfl (hs_fitE mL265 (Nat.le_of_ble_eq_true rfl))))) (Eq.trans (r_ic d338_24 kI_0) (Eq.trans (r_is_n (loc' := [some (.ref t0), some (.int x1), some (.int 0), none]) d338_25 rfl) (Eq.trans (r_ic d338_26 kI_0) (Eq.trans (r_is_n (loc' := [some (.ref t0), some (.int x1), some (.int 0), some (.int 0)]) d338_27 rfl) (rfl))))))
theorem b338_23 {t0 : Nat} {x1 s0 : Int32}  : hs_R scr d 338 23 [some (.ref t0), some (.int x1), none, none] [.int s0] (S, I, L, R) = some (some (.int s0), (S, I, L, R)) := r_ri d338_23 rt338
theorem b338_28 {t0 : Nat} {x1 x2 x3 : Int32} (o_t0 : ok11 S R t0) : hs_R scr d 338 28 [some (.ref t0), some (.int x1), some (.int x2), some (.int x3)] [] (S, I, L, R) = (if (I (t0 + 5) 5) ≤ x3 then some (some (.int x2), (S, I, L, R)) else (if hs_ib ((107 : Int32) + x3) 1995 = true then (if (I (t0 + 5) (Int32.toNatClampNeg ((107 : Int32) + x3))) = x1 then (if hs_ib ((117 : Int32) + x3) 1995 = true then hs_R scr d 338 94 [some (.ref t0), some (.int x1), some (.int x2), some (.int x3)] [.int ((1 : Int32) <<< ((I (t0 + 5) (Int32.toNatClampNeg ((117 : Int32) + x3))) &&& 31)), .int x2] (S, I, L, R) else none) else (if hs_ib ((117 : Int32) + x3) 1995 = true then (if (I (t0 + 5) (Int32.toNatClampNeg ((117 : Int32) + x3))) = x1 then (if hs_ib ((107 : Int32) + x3) 1995 = true then hs_R scr d 338 94 [some (.ref t0), some (.int x1), some (.int x2), some (.int x3)] [.int ((1 : Int32) <<< ((I (t0 + 5) (Int32.toNatClampNeg ((107 : Int32) + x3))) &&& 31)), .int x2] (S, I, L, R) else none) else hs_R scr d 338 94 [some (.ref t0), some (.int x1), some (.int x2), some (.int x3)] [.int 0, .int x2] (S, I, L, R)) else none)) else none)) := Eq.trans (r_il_n d338_28 rfl) (Eq.trans (r_al_n d338_29 rfl) (Eq.trans (r_getRe d338_30 f338_35 o_t0.2.1 (o_t0.2.2.2.2.2.2.2.2.2.2.1) (Nat.le_trans o_t0.1 (Nat.le_add_right _ _))) (Eq.trans (r_ic d338_33 kI_5) (Eq.trans ((r_ialdC d338_34 (o_t0.2.2.2.2.2.2.2.2.2.2.2.1) ib_5_1995 tn_5)) (Eq.trans (r_cge d338_35 rfl) (q_ite (Eq.trans (r_il_n d338_102 rfl) (r_ri d338_103 rt338)) (Eq.trans (r_il_n d338_38 rfl) (Eq.trans (r_al_n d338_39 rfl) (Eq.trans (r_getRe d338_40 f338_35 o_t0.2.1 (o_t0.2.2.2.2.2.2.2.2.2.2.1) (Nat.le_trans o_t0.1 (Nat.le_add_right _ _))) (Eq.trans (r_bp d338_43 kB_107) (Eq.trans (r_il_n d338_45 rfl) (Eq.trans (r_iadd d338_46) (Eq.trans (r_iald d338_47 (o_t0.2.2.2.2.2.2.2.2.2.2.2.1)) (q_ite (Eq.trans (r_il_n d338_48 rfl) (Eq.trans (r_cne d338_49 rfl) (q_ite (Eq.trans (r_ic d338_52 kI_1) (Eq.trans (r_al_n d338_53 rfl) (Eq.trans (r_getRe d338_54 f338_35 o_t0.2.1 (o_t0.2.2.2.2.2.2.2.2.2.2.1) (Nat.le_trans o_t0.1 (Nat.le_add_right _ _))) (Eq.trans (r_bp d338_57 kB_117) (Eq.trans (r_il_n d338_59 rfl) (Eq.trans (r_iadd d338_60) (Eq.trans (r_iald d338_61 (o_t0.2.2.2.2.2.2.2.2.2.2.2.1)) (q_ite (Eq.trans (r_ishl d338_62) (Eq.trans (r_goto d338_63 rfl) (rfl))) rfl)))))))) (Eq.trans (r_al_n d338_66 rfl) (Eq.trans (r_getRe d338_67 f338_35 o_t0.2.1 (o_t0.2.2.2.2.2.2.2.2.2.2.1) (Nat.le_trans o_t0.1 (Nat.le_add_right _ _))) (Eq.trans (r_bp d338_70 kB_117) (Eq.trans (r_il_n d338_72 rfl) (Eq.trans (r_iadd d338_73) (Eq.trans (r_iald d338_74 (o_t0.2.2.2.2.2.2.2.2.2.2.2.1)) (q_ite (Eq.trans (r_il_n d338_75 rfl) (Eq.trans (r_cne d338_76 rfl) (q_ite (Eq.trans (r_ic d338_79 kI_1) (Eq.trans (r_al_n d338_80 rfl) (Eq.trans (r_getRe d338_81 f338_35 o_t0.2.1 (o_t0.2.2.2.2.2.2.2.2.2.2.1) (Nat.le_trans o_t0.1 (Nat.le_add_right _ _))) (Eq.trans (r_bp d338_84 kB_107) (Eq.trans (r_il_n d338_86 rfl) (Eq.trans (r_iadd d338_87) (Eq.trans (r_iald d338_88 (o_t0.2.2.2.2.2.2.2.2.2.2.2.1)) (q_ite (Eq.trans (r_ishl d338_89) (Eq.trans (r_goto d338_90 rfl) (rfl))) rfl)))))))) (Eq.trans (r_ic d338_93 kI_0) (rfl))))) rfl)))))))))) rfl))))))))))))))
theorem b338_94 {t0 : Nat} {x1 x2 x3 s0 s1 : Int32}  : hs_R scr d 338 94 [some (.ref t0), some (.int x1), some (.int x2), some (.int x3)] [.int s1, .int s0] (S, I, L, R) = hs_R scr d 338 28 [some (.ref t0), some (.int x1), some (.int (s0 ||| s1)), some (.int (x3 + 1))] [] (S, I, L, R) := Eq.trans (r_ior d338_94) (Eq.trans (r_is_n (loc' := [some (.ref t0), some (.int x1), some (.int (s0 ||| s1)), some (.int x3)]) d338_95 rfl) (Eq.trans (r_inc (loc' := [some (.ref t0), some (.int x1), some (.int (s0 ||| s1)), some (.int (x3 + 1))]) d338_96 kI_1 rfl rfl) (Eq.trans (r_goto d338_99 rfl) (rfl))))
theorem e339 {t0 : Nat} {x1 : Int32} : hs_C scr d 339 [.ref t0, .int x1] h = hs_R scr d 339 0 [some (.ref t0), some (.int x1)] [] h := by rw [hs_C, mL339]; rfl
theorem b339_0 {t0 : Nat} {x1 : Int32} (o_t0 : ok11 S R t0) : hs_R scr (d + 1) 339 0 [some (.ref t0), some (.int x1)] [] (S, I, L, R) = ((hs_C scr d 223 [.long (Int32.toInt64 x1), .long 0, .long (Int32.toInt64 ((I (t0 + 5) 4) - 1))] (S, I, L, R)).bind fun o => hs_R scr (d + 1) 339 15 [some (.ref t0), some (.int x1)] (o.1.toList ++ []) o.2) := Eq.trans (r_il_n d339_0 rfl) (Eq.trans (r_i2l d339_1) (Eq.trans (r_lc d339_2 kL_0) (Eq.trans (r_al_n d339_3 rfl) (Eq.trans (r_getRe d339_4 f339_35 o_t0.2.1 (o_t0.2.2.2.2.2.2.2.2.2.2.1) (Nat.le_trans o_t0.1 (Nat.le_add_right _ _))) (Eq.trans (r_ic d339_7 kI_4) (Eq.trans ((r_ialdC d339_8 (o_t0.2.2.2.2.2.2.2.2.2.2.2.1) ib_4_1995 tn_4)) (Eq.trans (r_ic d339_9 kI_1) (Eq.trans (r_isub d339_10) (Eq.trans (r_i2l d339_11) (r_cs (as := [.long (Int32.toInt64 x1), .long 0, .long (Int32.toInt64 ((I (t0 + 5) 4) - 1))]) (r := []) d339_12 c339_95 np223.symm rfl (hs_fitE mL223 (Nat.le_of_ble_eq_true rfl))))))))))))
theorem b339_15 {t0 : Nat} {x1 s0 : Int32}  : hs_R scr d 339 15 [some (.ref t0), some (.int x1)] [.int s0] (S, I, L, R) = (if s0 = 0 ∨ s0 = 1 then some (some (.int s0), (S, I, L, R)) else none) := r_rz d339_15 rt339
theorem e340 {t0 : Nat} {x1 : Int32} : hs_C scr d 340 [.ref t0, .int x1] h = hs_R scr d 340 0 [some (.ref t0), some (.int x1)] [] h := by rw [hs_C, mL340]; rfl
theorem b340_0 {t0 : Nat} {x1 : Int32} (o_t0 : ok11 S R t0) : hs_R scr (d + 1) 340 0 [some (.ref t0), some (.int x1)] [] (S, I, L, R) = ((hs_C scr d 223 [.long (Int32.toInt64 x1), .long 0, .long 3] (S, (hs_u (hs_u I t0 1 0) t0 0 0), L, R)).bind fun o => hs_R scr (d + 1) 340 19 [some (.ref t0), some (.int x1)] (o.1.toList ++ []) o.2) := Eq.trans (r_al_n d340_0 rfl) (Eq.trans (r_ic d340_1 kI_0) (Eq.trans (r_putI d340_2 f340_60 o_t0.2.1) (Eq.trans (r_al_n d340_5 rfl) (Eq.trans (r_ic d340_6 kI_0) (Eq.trans (r_putI d340_7 f340_63 o_t0.2.1) (Eq.trans (r_il_n d340_10 rfl) (Eq.trans (r_i2l d340_11) (Eq.trans (r_lc d340_12 kL_0) (Eq.trans (r_ldc2 d340_13 cl340_93) (r_cs (as := [.long (Int32.toInt64 x1), .long 0, .long 3]) (r := []) d340_16 c340_95 np223.symm rfl (hs_fitE mL223 (Nat.le_of_ble_eq_true rfl))))))))))))
theorem b340_19 {t0 : Nat} {x1 s0 : Int32} (o_t0 : ok11 S R t0) : hs_R scr (d + 1) 340 19 [some (.ref t0), some (.int x1)] [.int s0] (S, I, L, R) = (if s0 = 0 then ((hs_C scr d 265 [.ref t0, .int 5] (S, I, L, R)).bind fun o => hs_R scr (d + 1) 340 36 [some (.ref t0), some (.int x1)] (o.1.toList ++ []) o.2) else ((hs_C scr d 341 [.ref t0, .int 0, .int x1] (S, I, L, R)).bind fun o => hs_R scr (d + 1) 340 28 [some (.ref t0), some (.int x1)] (o.1.toList ++ []) o.2)) := Eq.trans (r_zeq d340_19 rfl) (q_ite (Eq.trans (r_al_n d340_31 rfl) (Eq.trans (r_ic d340_32 kI_5) (r_cvE (as := [.int 5]) (r := []) d340_33 c340_322 ow265 o_t0.2.1 np265.symm rfl (hs_fitE mL265 (Nat.le_of_ble_eq_true rfl))))) (Eq.trans (r_al_n d340_22 rfl) (Eq.trans (r_ic d340_23 kI_0) (Eq.trans (r_il_n d340_24 rfl) (r_cvE (as := [.int 0, .int x1]) (r := []) d340_25 c340_454 ow341 o_t0.2.1 np341.symm rfl (hs_fitE mL341 (Nat.le_of_ble_eq_true rfl)))))))
theorem b340_28 {t0 : Nat} {x1 s0 : Int32}  : hs_R scr d 340 28 [some (.ref t0), some (.int x1)] [.int s0] (S, I, L, R) = hs_R scr d 340 36 [some (.ref t0), some (.int x1)] [.int s0] (S, I, L, R) := Eq.trans (r_goto d340_28 rfl) (rfl)
theorem b340_36 {t0 : Nat} {x1 s0 : Int32}  : hs_R scr d 340 36 [some (.ref t0), some (.int x1)] [.int s0] (S, I, L, R) = some (some (.int s0), (S, I, L, R)) := r_ri d340_36 rt340
theorem e341 {t0 : Nat} {x1 : Int32} {x2 : Int32} : hs_C scr d 341 [.ref t0, .int x1, .int x2] h = hs_R scr d 341 0 [some (.ref t0), some (.int x1), some (.int x2), none, none, none, none, none, none] [] h := by rw [hs_C, mL341]; rfl
theorem b341_0 {t0 : Nat} {x1 x2 : Int32} (o_t0 : ok11 S R t0) : hs_R scr (d + 1) 341 0 [some (.ref t0), some (.int x1), some (.int x2), none, none, none, none, none, none] [] (S, I, L, R) = (if x1 = x2 then ((hs_C scr d 269 [.ref t0, .int 0, .int ((I (t0 + 5) 0) / 2)] (S, I, L, R)).bind fun o => hs_R scr (d + 1) 341 18 [some (.ref t0), some (.int x1), some (.int x2), none, none, none, none, none, none] (o.1.toList ++ []) o.2) else (if (x1 - x1 / 2 * 2) = 0 then hs_R scr (d + 1) 341 49 [some (.ref t0), some (.int x1), some (.int x2), none, none, none, none, none, none] [.int 1] (S, I, L, R) else hs_R scr (d + 1) 341 49 [some (.ref t0), some (.int x1), some (.int x2), none, none, none, none, none, none] [.int 0] (S, I, L, R))) := Eq.trans (r_il_n d341_0 rfl) (Eq.trans (r_il_n d341_1 rfl) (Eq.trans (r_cne d341_2 rfl) (q_ite (Eq.trans (r_al_n d341_5 rfl) (Eq.trans (r_ic d341_6 kI_0) (Eq.trans (r_al_n d341_7 rfl) (Eq.trans (r_getRe d341_8 f341_35 o_t0.2.1 (o_t0.2.2.2.2.2.2.2.2.2.2.1) (Nat.le_trans o_t0.1 (Nat.le_add_right _ _))) (Eq.trans (r_ic d341_11 kI_0) (Eq.trans ((r_ialdC d341_12 (o_t0.2.2.2.2.2.2.2.2.2.2.2.1) ib_0_1995 tn_0)) (Eq.trans (r_ic d341_13 kI_2) (Eq.trans ((r_idiv d341_14).trans (if_neg nzI_2)) (r_cvE (as := [.int 0, .int ((I (t0 + 5) 0) / 2)]) (r := []) d341_15 c341_334 ow269 o_t0.2.1 np269.symm rfl (hs_fitE mL269 (Nat.le_of_ble_eq_true rfl))))))))))) (Eq.trans (r_il_n d341_38 rfl) (Eq.trans (r_ic d341_39 kI_2) (Eq.trans ((r_irem d341_40).trans (if_neg nzI_2)) (Eq.trans (r_zne d341_41 rfl) (q_ite (Eq.trans (r_ic d341_44 kI_1) (Eq.trans (r_goto d341_45 rfl) (rfl))) (Eq.trans (r_ic d341_48 kI_0) (rfl))))))))))
theorem b341_18 {t0 : Nat} {x1 x2 s0 : Int32} (o_t0 : ok11 S R t0) : hs_R scr (d + 1) 341 18 [some (.ref t0), some (.int x1), some (.int x2), none, none, none, none, none, none] [.int s0] (S, I, L, R) = ((hs_C scr d 269 [.ref t0, .int ((I (t0 + 5) 0) / 2), .int (I (t0 + 5) 0)] (S, I, L, R)).bind fun o => hs_R scr (d + 1) 341 36 [some (.ref t0), some (.int x1), some (.int x2), none, none, none, none, none, none] (o.1.toList ++ [.int s0]) o.2) := Eq.trans (r_al_n d341_18 rfl) (Eq.trans (r_al_n d341_19 rfl) (Eq.trans (r_getRe d341_20 f341_35 o_t0.2.1 (o_t0.2.2.2.2.2.2.2.2.2.2.1) (Nat.le_trans o_t0.1 (Nat.le_add_right _ _))) (Eq.trans (r_ic d341_23 kI_0) (Eq.trans ((r_ialdC d341_24 (o_t0.2.2.2.2.2.2.2.2.2.2.2.1) ib_0_1995 tn_0)) (Eq.trans (r_ic d341_25 kI_2) (Eq.trans ((r_idiv d341_26).trans (if_neg nzI_2)) (Eq.trans (r_al_n d341_27 rfl) (Eq.trans (r_getRe d341_28 f341_35 o_t0.2.1 (o_t0.2.2.2.2.2.2.2.2.2.2.1) (Nat.le_trans o_t0.1 (Nat.le_add_right _ _))) (Eq.trans (r_ic d341_31 kI_0) (Eq.trans ((r_ialdC d341_32 (o_t0.2.2.2.2.2.2.2.2.2.2.2.1) ib_0_1995 tn_0)) (r_cvE (as := [.int ((I (t0 + 5) 0) / 2), .int (I (t0 + 5) 0)]) (r := [.int s0]) d341_33 c341_334 ow269 o_t0.2.1 np269.symm rfl (hs_fitE mL269 (Nat.le_of_ble_eq_true rfl)))))))))))))
theorem b341_36 {t0 : Nat} {x1 x2 s0 s1 : Int32}  : hs_R scr d 341 36 [some (.ref t0), some (.int x1), some (.int x2), none, none, none, none, none, none] [.int s1, .int s0] (S, I, L, R) = some (some (.int (s0 - s1)), (S, I, L, R)) := Eq.trans (r_isub d341_36) (r_ri d341_37 rt341)
theorem b341_49 {t0 : Nat} {x1 x2 s0 : Int32}  : hs_R scr d 341 49 [some (.ref t0), some (.int x1), some (.int x2), none, none, none, none, none, none] [.int s0] (S, I, L, R) = hs_R scr d 341 59 [some (.ref t0), some (.int x1), some (.int x2), some (.int s0), some (.int 0), some (.int (-1)), some (.int 0), none, none] [] (S, I, L, R) := Eq.trans (r_is_n (loc' := [some (.ref t0), some (.int x1), some (.int x2), some (.int s0), none, none, none, none, none]) d341_49 rfl) (Eq.trans (r_ic d341_50 kI_0) (Eq.trans (r_is (loc' := [some (.ref t0), some (.int x1), some (.int x2), some (.int s0), some (.int 0), none, none, none, none]) d341_51 rfl) (Eq.trans (r_ic d341_53 kI_m1) (Eq.trans (r_is (loc' := [some (.ref t0), some (.int x1), some (.int x2), some (.int s0), some (.int 0), some (.int (-1)), none, none, none]) d341_54 rfl) (Eq.trans (r_ic d341_56 kI_0) (Eq.trans (r_is (loc' := [some (.ref t0), some (.int x1), some (.int x2), some (.int s0), some (.int 0), some (.int (-1)), some (.int 0), none, none]) d341_57 rfl) (rfl)))))))
theorem b341_59 {t0 : Nat} {x1 x2 x3 x4 x5 x6 : Int32} (o_t0 : ok11 S R t0) : hs_R scr d 341 59 [some (.ref t0), some (.int x1), some (.int x2), some (.int x3), some (.int x4), some (.int x5), some (.int x6), none, none] [] (S, I, L, R) = (if (127 : Int32) ≤ x6 then hs_R scr d 341 94 [some (.ref t0), some (.int x1), some (.int x2), some (.int x3), some (.int x4), some (.int x5), some (.int 0), none, none] [] (S, I, L, R) else (if hs_ib x6 1995 = true then (if hs_ib (((127 : Int32) * x1) + x6) 508 = true then hs_R scr d 341 59 [some (.ref t0), some (.int x1), some (.int x2), some (.int x3), some (.int x4), some (.int x5), some (.int (x6 + 1)), none, none] [] (S, (hs_u I (t0 + 9) (Int32.toNatClampNeg (((127 : Int32) * x1) + x6)) (I (t0 + 5) (Int32.toNatClampNeg x6))), L, R) else none) else none)) := Eq.trans (r_il d341_59 rfl) (Eq.trans (r_bp d341_61 kB_127) (Eq.trans (r_cge d341_63 rfl) (q_ite (Eq.trans (r_ic d341_91 kI_0) (Eq.trans (r_is (loc' := [some (.ref t0), some (.int x1), some (.int x2), some (.int x3), some (.int x4), some (.int x5), some (.int 0), none, none]) d341_92 rfl) (rfl))) (Eq.trans (r_al_n d341_66 rfl) (Eq.trans (r_getRe d341_67 f341_47 o_t0.2.1 (o_t0.2.2.2.2.2.2.2.2.2.2.2.2.2.2.2.2.2.2.1) (Nat.le_trans o_t0.1 (Nat.le_add_right _ _))) (Eq.trans (r_bp d341_70 kB_127) (Eq.trans (r_il_n d341_72 rfl) (Eq.trans (r_imul d341_73) (Eq.trans (r_il d341_74 rfl) (Eq.trans (r_iadd d341_76) (Eq.trans (r_al_n d341_77 rfl) (Eq.trans (r_getRe d341_78 f341_35 o_t0.2.1 (o_t0.2.2.2.2.2.2.2.2.2.2.1) (Nat.le_trans o_t0.1 (Nat.le_add_right _ _))) (Eq.trans (r_il d341_81 rfl) (Eq.trans (r_iald d341_83 (o_t0.2.2.2.2.2.2.2.2.2.2.2.1)) (q_ite (Eq.trans (r_iast d341_84 (o_t0.2.2.2.2.2.2.2.2.2.2.2.2.2.2.2.2.2.2.2.1)) (q_ite (Eq.trans (r_inc (loc' := [some (.ref t0), some (.int x1), some (.int x2), some (.int x3), some (.int x4), some (.int x5), some (.int (x6 + 1)), none, none]) d341_85 kI_1 rfl rfl) (Eq.trans (r_goto d341_88 rfl) (rfl))) rfl)) rfl)))))))))))))))
theorem b341_94 {t0 : Nat} {x1 x2 x3 x4 x5 x6 : Int32} {w7 w8 : Option Value} (o_t0 : ok11 S R t0) : hs_R scr d 341 94 [some (.ref t0), some (.int x1), some (.int x2), some (.int x3), some (.int x4), some (.int x5), some (.int x6), w7, w8] [] (S, I, L, R) = (if (I (t0 + 5) 0) < x6 then (if x1 = 0 then hs_R scr d 341 229 [some (.ref t0), some (.int x1), some (.int x2), some (.int x3), some (.int x4), some (.int x5), some (.int x6), w7, w8] [] (S, (hs_u I t0 28 x5), L, R) else hs_R scr d 341 229 [some (.ref t0), some (.int x1), some (.int x2), some (.int x3), some (.int x4), some (.int x5), some (.int x6), w7, w8] [] (S, I, L, R)) else (if (I (t0 + 5) 0) ≤ x6 then hs_R scr d 341 127 [some (.ref t0), some (.int x1), some (.int x2), some (.int x3), some (.int x4), some (.int x5), some (.int x6), w7, w8] [] (S, I, L, R) else (if hs_ib ((10 : Int32) + x6) 1995 = true then hs_R scr d 341 127 [some (.ref t0), some (.int x1), some (.int x2), some (.int x3), some (.int x4), some (.int x5), some (.int x6), w7, w8] [] (S, (hs_u I (t0 + 5) (Int32.toNatClampNeg ((10 : Int32) + x6)) 0), L, R) else none))) := Eq.trans (r_il d341_94 rfl) (Eq.trans (r_al_n d341_96 rfl) (Eq.trans (r_getRe d341_97 f341_35 o_t0.2.1 (o_t0.2.2.2.2.2.2.2.2.2.2.1) (Nat.le_trans o_t0.1 (Nat.le_add_right _ _))) (Eq.trans (r_ic d341_100 kI_0) (Eq.trans ((r_ialdC d341_101 (o_t0.2.2.2.2.2.2.2.2.2.2.2.1) ib_0_1995 tn_0)) (Eq.trans (r_cgt d341_102 rfl) (q_ite (Eq.trans (r_il_n d341_219 rfl) (Eq.trans (r_zne d341_220 rfl) (q_ite (Eq.trans (r_al_n d341_223 rfl) (Eq.trans (r_il d341_224 rfl) (Eq.trans (r_putI d341_226 f341_457 o_t0.2.1) (rfl)))) (rfl)))) (Eq.trans (r_il d341_105 rfl) (Eq.trans (r_al_n d341_107 rfl) (Eq.trans (r_getRe d341_108 f341_35 o_t0.2.1 (o_t0.2.2.2.2.2.2.2.2.2.2.1) (Nat.le_trans o_t0.1 (Nat.le_add_right _ _))) (Eq.trans (r_ic d341_111 kI_0) (Eq.trans ((r_ialdC d341_112 (o_t0.2.2.2.2.2.2.2.2.2.2.2.1) ib_0_1995 tn_0)) (Eq.trans (r_cge d341_113 rfl) (q_ite (rfl) (Eq.trans (r_al_n d341_116 rfl) (Eq.trans (r_getRe d341_117 f341_35 o_t0.2.1 (o_t0.2.2.2.2.2.2.2.2.2.2.1) (Nat.le_trans o_t0.1 (Nat.le_add_right _ _))) (Eq.trans (r_bp d341_120 kB_10) (Eq.trans (r_il d341_122 rfl) (Eq.trans (r_iadd d341_124) (Eq.trans (r_ic d341_125 kI_0) (Eq.trans (r_iast d341_126 (o_t0.2.2.2.2.2.2.2.2.2.2.2.1)) (q_ite (rfl) rfl)))))))))))))))))))))
theorem b341_127 {t0 : Nat} {x1 x2 x3 x4 x5 x6 : Int32} {w7 w8 : Option Value} (o_t0 : ok11 S R t0) : hs_R scr (d + 1) 341 127 [some (.ref t0), some (.int x1), some (.int x2), some (.int x3), some (.int x4), some (.int x5), some (.int x6), w7, w8] [] (S, I, L, R) = ((hs_C scr d 284 [.ref t0] (S, I, L, R)).bind fun o => hs_R scr (d + 1) 341 131 [some (.ref t0), some (.int x1), some (.int x2), some (.int x3), some (.int x4), some (.int x5), some (.int x6), w7, w8] (o.1.toList ++ []) o.2) := Eq.trans (r_al_n d341_127 rfl) (r_cvE (as := []) (r := []) d341_128 c341_361 ow284 o_t0.2.1 np284.symm rfl (hs_fitE mL284 (Nat.le_of_ble_eq_true rfl)))
theorem b341_131 {t0 : Nat} {x1 x2 x3 x4 x5 x6 : Int32} {w7 w8 : Option Value} (o_t0 : ok11 S R t0) : hs_R scr (d + 1) 341 131 [some (.ref t0), some (.int x1), some (.int x2), some (.int x3), some (.int x4), some (.int x5), some (.int x6), w7, w8] [] (S, I, L, R) = ((hs_C scr d 341 [.ref t0, .int (x1 + 1), .int x2] (S, I, L, R)).bind fun o => hs_R scr (d + 1) 341 139 [some (.ref t0), some (.int x1), some (.int x2), some (.int x3), some (.int x4), some (.int x5), some (.int x6), w7, w8] (o.1.toList ++ []) o.2) := Eq.trans (r_al_n d341_131 rfl) (Eq.trans (r_il_n d341_132 rfl) (Eq.trans (r_ic d341_133 kI_1) (Eq.trans (r_iadd d341_134) (Eq.trans (r_il_n d341_135 rfl) (r_cvE (as := [.int (x1 + 1), .int x2]) (r := []) d341_136 c341_454 ow341 o_t0.2.1 np341.symm rfl (hs_fitE mL341 (Nat.le_of_ble_eq_true rfl)))))))
theorem b341_139 {t0 : Nat} {x1 x2 x3 x4 x5 x6 s0 : Int32} {w7 w8 : Option Value}  : hs_R scr d 341 139 [some (.ref t0), some (.int x1), some (.int x2), some (.int x3), some (.int x4), some (.int x5), some (.int x6), w7, w8] [.int s0] (S, I, L, R) = hs_R scr d 341 144 [some (.ref t0), some (.int x1), some (.int x2), some (.int x3), some (.int x4), some (.int x5), some (.int x6), some (.int s0), some (.int 0)] [] (S, I, L, R) := Eq.trans (r_is (loc' := [some (.ref t0), some (.int x1), some (.int x2), some (.int x3), some (.int x4), some (.int x5), some (.int x6), some (.int s0), w8]) d341_139 rfl) (Eq.trans (r_ic d341_141 kI_0) (Eq.trans (r_is (loc' := [some (.ref t0), some (.int x1), some (.int x2), some (.int x3), some (.int x4), some (.int x5), some (.int x6), some (.int s0), some (.int 0)]) d341_142 rfl) (rfl)))
theorem b341_144 {t0 : Nat} {x1 x2 x3 x4 x5 x6 x7 x8 : Int32} (o_t0 : ok11 S R t0) : hs_R scr d 341 144 [some (.ref t0), some (.int x1), some (.int x2), some (.int x3), some (.int x4), some (.int x5), some (.int x6), some (.int x7), some (.int x8)] [] (S, I, L, R) = (if (127 : Int32) ≤ x8 then (if x5 < 0 then hs_R scr d 341 205 [some (.ref t0), some (.int x1), some (.int x2), some (.int x3), some (.int x4), some (.int x5), some (.int x6), some (.int x7), some (.int x8)] [] (S, I, L, R) else (if x3 = 0 then (if x7 < x4 then hs_R scr d 341 205 [some (.ref t0), some (.int x1), some (.int x2), some (.int x3), some (.int x4), some (.int x5), some (.int x6), some (.int x7), some (.int x8)] [] (S, I, L, R) else hs_R scr d 341 213 [some (.ref t0), some (.int x1), some (.int x2), some (.int x3), some (.int x4), some (.int x5), some (.int x6), some (.int x7), some (.int x8)] [] (S, I, L, R)) else (if x4 < x7 then hs_R scr d 341 205 [some (.ref t0), some (.int x1), some (.int x2), some (.int x3), some (.int x4), some (.int x5), some (.int x6), some (.int x7), some (.int x8)] [] (S, I, L, R) else hs_R scr d 341 213 [some (.ref t0), some (.int x1), some (.int x2), some (.int x3), some (.int x4), some (.int x5), some (.int x6), some (.int x7), some (.int x8)] [] (S, I, L, R)))) else (if hs_ib (((127 : Int32) * x1) + x8) 508 = true then (if hs_ib x8 1995 = true then hs_R scr d 341 144 [some (.ref t0), some (.int x1), some (.int x2), some (.int x3), some (.int x4), some (.int x5), some (.int x6), some (.int x7), some (.int (x8 + 1))] [] (S, (hs_u I (t0 + 5) (Int32.toNatClampNeg x8) (I (t0 + 9) (Int32.toNatClampNeg (((127 : Int32) * x1) + x8)))), L, R) else none) else none)) := Eq.trans (r_il d341_144 rfl) (Eq.trans (r_bp d341_146 kB_127) (Eq.trans (r_cge d341_148 rfl) (q_ite (Eq.trans (r_il d341_176 rfl) (Eq.trans (r_zlt d341_178 rfl) (q_ite (rfl) (Eq.trans (r_il_n d341_181 rfl) (Eq.trans (r_zeq d341_182 rfl) (q_ite (Eq.trans (r_il d341_195 rfl) (Eq.trans (r_il d341_197 rfl) (Eq.trans (r_clt d341_199 rfl) (q_ite (rfl) (Eq.trans (r_goto d341_202 rfl) (rfl)))))) (Eq.trans (r_il d341_185 rfl) (Eq.trans (r_il d341_187 rfl) (Eq.trans (r_cgt d341_189 rfl) (q_ite (rfl) (Eq.trans (r_goto d341_192 rfl) (rfl)))))))))))) (Eq.trans (r_al_n d341_151 rfl) (Eq.trans (r_getRe d341_152 f341_35 o_t0.2.1 (o_t0.2.2.2.2.2.2.2.2.2.2.1) (Nat.le_trans o_t0.1 (Nat.le_add_right _ _))) (Eq.trans (r_il d341_155 rfl) (Eq.trans (r_al_n d341_157 rfl) (Eq.trans (r_getRe d341_158 f341_47 o_t0.2.1 (o_t0.2.2.2.2.2.2.2.2.2.2.2.2.2.2.2.2.2.2.1) (Nat.le_trans o_t0.1 (Nat.le_add_right _ _))) (Eq.trans (r_bp d341_161 kB_127) (Eq.trans (r_il_n d341_163 rfl) (Eq.trans (r_imul d341_164) (Eq.trans (r_il d341_165 rfl) (Eq.trans (r_iadd d341_167) (Eq.trans (r_iald d341_168 (o_t0.2.2.2.2.2.2.2.2.2.2.2.2.2.2.2.2.2.2.2.1)) (q_ite (Eq.trans (r_iast d341_169 (o_t0.2.2.2.2.2.2.2.2.2.2.2.1)) (q_ite (Eq.trans (r_inc (loc' := [some (.ref t0), some (.int x1), some (.int x2), some (.int x3), some (.int x4), some (.int x5), some (.int x6), some (.int x7), some (.int (x8 + 1))]) d341_170 kI_1 rfl rfl) (Eq.trans (r_goto d341_173 rfl) (rfl))) rfl)) rfl)))))))))))))))
theorem b341_205 {t0 : Nat} {x1 x2 x3 x4 x5 x6 x7 x8 : Int32}  : hs_R scr d 341 205 [some (.ref t0), some (.int x1), some (.int x2), some (.int x3), some (.int x4), some (.int x5), some (.int x6), some (.int x7), some (.int x8)] [] (S, I, L, R) = hs_R scr d 341 213 [some (.ref t0), some (.int x1), some (.int x2), some (.int x3), some (.int x7), some (.int x6), some (.int x6), some (.int x7), some (.int x8)] [] (S, I, L, R) := Eq.trans (r_il d341_205 rfl) (Eq.trans (r_is (loc' := [some (.ref t0), some (.int x1), some (.int x2), some (.int x3), some (.int x7), some (.int x5), some (.int x6), some (.int x7), some (.int x8)]) d341_207 rfl) (Eq.trans (r_il d341_209 rfl) (Eq.trans (r_is (loc' := [some (.ref t0), some (.int x1), some (.int x2), some (.int x3), some (.int x7), some (.int x6), some (.int x6), some (.int x7), some (.int x8)]) d341_211 rfl) (rfl))))
theorem b341_213 {t0 : Nat} {x1 x2 x3 x4 x5 x6 x7 x8 : Int32}  : hs_R scr d 341 213 [some (.ref t0), some (.int x1), some (.int x2), some (.int x3), some (.int x4), some (.int x5), some (.int x6), some (.int x7), some (.int x8)] [] (S, I, L, R) = hs_R scr d 341 94 [some (.ref t0), some (.int x1), some (.int x2), some (.int x3), some (.int x4), some (.int x5), some (.int (x6 + 1)), some (.int x7), some (.int x8)] [] (S, I, L, R) := Eq.trans (r_inc (loc' := [some (.ref t0), some (.int x1), some (.int x2), some (.int x3), some (.int x4), some (.int x5), some (.int (x6 + 1)), some (.int x7), some (.int x8)]) d341_213 kI_1 rfl rfl) (Eq.trans (r_goto d341_216 rfl) (rfl))
theorem b341_229 {t0 : Nat} {x1 x2 x3 x4 x5 x6 : Int32} {w7 w8 : Option Value}  : hs_R scr d 341 229 [some (.ref t0), some (.int x1), some (.int x2), some (.int x3), some (.int x4), some (.int x5), some (.int x6), w7, w8] [] (S, I, L, R) = some (some (.int x4), (S, I, L, R)) := Eq.trans (r_il d341_229 rfl) (r_ri d341_231 rt341)
theorem e342 {t0 : Nat} {x1 : Int32} : hs_C scr d 342 [.ref t0, .int x1] h = hs_R scr d 342 0 [some (.ref t0), some (.int x1)] [] h := by rw [hs_C, mL342]; rfl
theorem b342_0 {t0 : Nat} {x1 : Int32} (o_t0 : ok11 S R t0) : hs_R scr (d + 1) 342 0 [some (.ref t0), some (.int x1)] [] (S, I, L, R) = ((hs_C scr d 223 [.long (Int32.toInt64 x1), .long 1, .long 3] (S, (hs_u (hs_u I t0 1 0) t0 0 0), L, R)).bind fun o => hs_R scr (d + 1) 342 19 [some (.ref t0), some (.int x1)] (o.1.toList ++ []) o.2) := Eq.trans (r_al_n d342_0 rfl) (Eq.trans (r_ic d342_1 kI_0) (Eq.trans (r_putI d342_2 f342_60 o_t0.2.1) (Eq.trans (r_al_n d342_5 rfl) (Eq.trans (r_ic d342_6 kI_0) (Eq.trans (r_putI d342_7 f342_63 o_t0.2.1) (Eq.trans (r_il_n d342_10 rfl) (Eq.trans (r_i2l d342_11) (Eq.trans (r_lc d342_12 kL_1) (Eq.trans (r_ldc2 d342_13 cl342_93) (r_cs (as := [.long (Int32.toInt64 x1), .long 1, .long 3]) (r := []) d342_16 c342_95 np223.symm rfl (hs_fitE mL223 (Nat.le_of_ble_eq_true rfl))))))))))))
theorem b342_19 {t0 : Nat} {x1 s0 : Int32} (o_t0 : ok11 S R t0) : hs_R scr (d + 1) 342 19 [some (.ref t0), some (.int x1)] [.int s0] (S, I, L, R) = (if s0 = 0 then ((hs_C scr d 265 [.ref t0, .int 5] (S, I, L, R)).bind fun o => hs_R scr (d + 1) 342 27 [some (.ref t0), some (.int x1)] (o.1.toList ++ []) o.2) else ((hs_C scr d 341 [.ref t0, .int 0, .int x1] (S, I, L, R)).bind fun o => hs_R scr (d + 1) 342 34 [some (.ref t0), some (.int x1)] (o.1.toList ++ []) o.2)) := Eq.trans (r_zne d342_19 rfl) (q_ite (Eq.trans (r_al_n d342_22 rfl) (Eq.trans (r_ic d342_23 kI_5) (r_cvE (as := [.int 5]) (r := []) d342_24 c342_322 ow265 o_t0.2.1 np265.symm rfl (hs_fitE mL265 (Nat.le_of_ble_eq_true rfl))))) (Eq.trans (r_al_n d342_28 rfl) (Eq.trans (r_ic d342_29 kI_0) (Eq.trans (r_il_n d342_30 rfl) (r_cvE (as := [.int 0, .int x1]) (r := []) d342_31 c342_454 ow341 o_t0.2.1 np341.symm rfl (hs_fitE mL341 (Nat.le_of_ble_eq_true rfl)))))))
theorem b342_27 {t0 : Nat} {x1 s0 : Int32}  : hs_R scr d 342 27 [some (.ref t0), some (.int x1)] [.int s0] (S, I, L, R) = some (some (.int s0), (S, I, L, R)) := r_ri d342_27 rt342
theorem b342_34 {t0 : Nat} {x1 s0 : Int32} (o_t0 : ok11 S R t0) : hs_R scr (d + 1) 342 34 [some (.ref t0), some (.int x1)] [.int s0] (S, I, L, R) = (if (I t0 28) = (I (t0 + 5) 0) then ((hs_C scr d 265 [.ref t0, .int 8] (S, I, L, R)).bind fun o => hs_R scr (d + 1) 342 54 [some (.ref t0), some (.int x1)] (o.1.toList ++ []) o.2) else hs_R scr (d + 1) 342 61 [some (.ref t0), some (.int x1)] [.int (I t0 28)] (S, I, L, R)) := Eq.trans (r_pop d342_34 rfl) (Eq.trans (r_al_n d342_35 rfl) (Eq.trans (r_getI d342_36 f342_457 o_t0.2.1) (Eq.trans (r_al_n d342_39 rfl) (Eq.trans (r_getRe d342_40 f342_35 o_t0.2.1 (o_t0.2.2.2.2.2.2.2.2.2.2.1) (Nat.le_trans o_t0.1 (Nat.le_add_right _ _))) (Eq.trans (r_ic d342_43 kI_0) (Eq.trans ((r_ialdC d342_44 (o_t0.2.2.2.2.2.2.2.2.2.2.2.1) ib_0_1995 tn_0)) (Eq.trans (r_cne d342_45 rfl) (q_ite (Eq.trans (r_al_n d342_48 rfl) (Eq.trans (r_bp d342_49 kB_8) (r_cvE (as := [.int 8]) (r := []) d342_51 c342_322 ow265 o_t0.2.1 np265.symm rfl (hs_fitE mL265 (Nat.le_of_ble_eq_true rfl))))) (Eq.trans (r_al_n d342_57 rfl) (Eq.trans (r_getI d342_58 f342_457 o_t0.2.1) (rfl)))))))))))
theorem b342_54 {t0 : Nat} {x1 s0 : Int32}  : hs_R scr d 342 54 [some (.ref t0), some (.int x1)] [.int s0] (S, I, L, R) = hs_R scr d 342 61 [some (.ref t0), some (.int x1)] [.int s0] (S, I, L, R) := Eq.trans (r_goto d342_54 rfl) (rfl)
theorem b342_61 {t0 : Nat} {x1 s0 : Int32}  : hs_R scr d 342 61 [some (.ref t0), some (.int x1)] [.int s0] (S, I, L, R) = some (some (.int s0), (S, I, L, R)) := r_ri d342_61 rt342
theorem e343 {t0 : Nat} {x1 : Int32} {x2 : Int32} : hs_C scr d 343 [.ref t0, .int x1, .int x2] h = hs_R scr d 343 0 [some (.ref t0), some (.int x1), some (.int x2), none, none, none, none, none] [] h := by rw [hs_C, mL343]; rfl
theorem b343_0 {t0 : Nat} {x1 x2 : Int32} (o_t0 : ok11 S R t0) : hs_R scr (d + 1) 343 0 [some (.ref t0), some (.int x1), some (.int x2), none, none, none, none, none] [] (S, I, L, R) = ((hs_C scr d 278 [.ref t0, .int x1] (S, (hs_u (hs_u I t0 1 0) t0 0 0), L, R)).bind fun o => hs_R scr (d + 1) 343 15 [some (.ref t0), some (.int x1), some (.int x2), none, none, none, none, none] (o.1.toList ++ []) o.2) := Eq.trans (r_al_n d343_0 rfl) (Eq.trans (r_ic d343_1 kI_0) (Eq.trans (r_putI d343_2 f343_60 o_t0.2.1) (Eq.trans (r_al_n d343_5 rfl) (Eq.trans (r_ic d343_6 kI_0) (Eq.trans (r_putI d343_7 f343_63 o_t0.2.1) (Eq.trans (r_al_n d343_10 rfl) (Eq.trans (r_il_n d343_11 rfl) (r_cvE (as := [.int x1]) (r := []) d343_12 c343_346 ow278 o_t0.2.1 np278.symm rfl (hs_fitE mL278 (Nat.le_of_ble_eq_true rfl))))))))))
theorem b343_15 {t0 : Nat} {x1 x2 s0 : Int32} (o_t0 : ok11 S R t0) : hs_R scr (d + 1) 343 15 [some (.ref t0), some (.int x1), some (.int x2), none, none, none, none, none] [.int s0] (S, I, L, R) = (if s0 = 0 then ((hs_C scr d 197 [.ref t0, .int 2] (S, I, L, R)).bind fun o => hs_R scr (d + 1) 343 23 [some (.ref t0), some (.int x1), some (.int x2), none, none, none, none, none] (o.1.toList ++ []) o.2) else ((hs_C scr d 223 [.long (Int32.toInt64 x2), .long 0, .long 8] (S, I, L, R)).bind fun o => hs_R scr (d + 1) 343 33 [some (.ref t0), some (.int x1), some (.int x2), none, none, none, none, none] (o.1.toList ++ []) o.2)) := Eq.trans (r_zne d343_15 rfl) (q_ite (Eq.trans (r_al_n d343_18 rfl) (Eq.trans (r_ic d343_19 kI_2) (r_cvE (as := [.int 2]) (r := []) d343_20 c343_75 ow197 o_t0.2.1 np197.symm rfl (hs_fitE mL197 (Nat.le_of_ble_eq_true rfl))))) (Eq.trans (r_il_n d343_24 rfl) (Eq.trans (r_i2l d343_25) (Eq.trans (r_lc d343_26 kL_0) (Eq.trans (r_ldc2 d343_27 cl343_460) (r_cs (as := [.long (Int32.toInt64 x2), .long 0, .long 8]) (r := []) d343_30 c343_95 np223.symm rfl (hs_fitE mL223 (Nat.le_of_ble_eq_true rfl))))))))
theorem b343_23 {t0 : Nat} {x1 x2 s0 : Int32}  : hs_R scr d 343 23 [some (.ref t0), some (.int x1), some (.int x2), none, none, none, none, none] [.int s0] (S, I, L, R) = (if s0 = 0 ∨ s0 = 1 then some (some (.int s0), (S, I, L, R)) else none) := r_rz d343_23 rt343
theorem b343_33 {t0 : Nat} {x1 x2 s0 : Int32} (o_t0 : ok11 S R t0) : hs_R scr (d + 1) 343 33 [some (.ref t0), some (.int x1), some (.int x2), none, none, none, none, none] [.int s0] (S, I, L, R) = (if s0 = 0 then ((hs_C scr d 197 [.ref t0, .int 5] (S, I, L, R)).bind fun o => hs_R scr (d + 1) 343 41 [some (.ref t0), some (.int x1), some (.int x2), none, none, none, none, none] (o.1.toList ++ []) o.2) else hs_R scr (d + 1) 343 47 [some (.ref t0), some (.int x1), some (.int x2), some (.long 1), none, some (.int 0), none, none] [] (S, I, L, R)) := Eq.trans (r_zne d343_33 rfl) (q_ite (Eq.trans (r_al_n d343_36 rfl) (Eq.trans (r_ic d343_37 kI_5) (r_cvE (as := [.int 5]) (r := []) d343_38 c343_75 ow197 o_t0.2.1 np197.symm rfl (hs_fitE mL197 (Nat.le_of_ble_eq_true rfl))))) (Eq.trans (r_lc d343_42 kL_1) (Eq.trans (r_ls_n (loc' := [some (.ref t0), some (.int x1), some (.int x2), some (.long 1), none, none, none, none]) d343_43 rfl) (Eq.trans (r_ic d343_44 kI_0) (Eq.trans (r_is (loc' := [some (.ref t0), some (.int x1), some (.int x2), some (.long 1), none, some (.int 0), none, none]) d343_45 rfl) (rfl))))))
theorem b343_41 {t0 : Nat} {x1 x2 s0 : Int32}  : hs_R scr d 343 41 [some (.ref t0), some (.int x1), some (.int x2), none, none, none, none, none] [.int s0] (S, I, L, R) = (if s0 = 0 ∨ s0 = 1 then some (some (.int s0), (S, I, L, R)) else none) := r_rz d343_41 rt343
theorem b343_47 {t0 : Nat} {x1 x2 x5 : Int32} {y3 : Int64} (o_t0 : ok11 S R t0) : hs_R scr d 343 47 [some (.ref t0), some (.int x1), some (.int x2), some (.long y3), none, some (.int x5), none, none] [] (S, I, L, R) = (if (8 : Int32) < x5 then hs_R scr d 343 80 [some (.ref t0), some (.int x1), some (.int x2), some (.long y3), none, some (.int 0), none, none] [] (S, I, L, R) else (if x5 = 0 then hs_R scr d 343 70 [some (.ref t0), some (.int x1), some (.int x2), some (.long y3), none, some (.int x5), none, none] [.long 1, .int x5, .ref (t0 + 10)] (S, I, L, R) else hs_R scr d 343 70 [some (.ref t0), some (.int x1), some (.int x2), some (.long y3), none, some (.int x5), none, none] [.long 0, .int x5, .ref (t0 + 10)] (S, I, L, R))) := Eq.trans (r_il d343_47 rfl) (Eq.trans (r_bp d343_49 kB_8) (Eq.trans (r_cgt d343_51 rfl) (q_ite (Eq.trans (r_ic d343_77 kI_0) (Eq.trans (r_is (loc' := [some (.ref t0), some (.int x1), some (.int x2), some (.long y3), none, some (.int 0), none, none]) d343_78 rfl) (rfl))) (Eq.trans (r_al_n d343_54 rfl) (Eq.trans (r_getRe d343_55 f343_50 o_t0.2.1 (o_t0.2.2.2.2.2.2.2.2.2.2.2.2.2.2.2.2.2.2.2.2.1) (Nat.le_trans o_t0.1 (Nat.le_add_right _ _))) (Eq.trans (r_il d343_58 rfl) (Eq.trans (r_il d343_60 rfl) (Eq.trans (r_zne d343_62 rfl) (q_ite (Eq.trans (r_lc d343_65 kL_1) (Eq.trans (r_goto d343_66 rfl) (rfl))) (Eq.trans (r_lc d343_69 kL_0) (rfl)))))))))))
theorem b343_70 {t0 u0 n_u0 : Nat} {x1 x2 x5 s1 : Int32} {y3 v2 : Int64} (a_u0 : S[u0]? = some (.inr (.long, n_u0))) : hs_R scr d 343 70 [some (.ref t0), some (.int x1), some (.int x2), some (.long y3), none, some (.int x5), none, none] [.long v2, .int s1, .ref u0] (S, I, L, R) = (if hs_ib s1 n_u0 = true then hs_R scr d 343 47 [some (.ref t0), some (.int x1), some (.int x2), some (.long y3), none, some (.int (x5 + 1)), none, none] [] (S, I, (hs_u L u0 (Int32.toNatClampNeg s1) v2), R) else none) := Eq.trans (r_last d343_70 a_u0) (q_ite (Eq.trans (r_inc (loc' := [some (.ref t0), some (.int x1), some (.int x2), some (.long y3), none, some (.int (x5 + 1)), none, none]) d343_71 kI_1 rfl rfl) (Eq.trans (r_goto d343_74 rfl) (rfl))) rfl)
theorem b343_80 {t0 : Nat} {x1 x2 x5 : Int32} {y3 : Int64} {w6 : Option Value} (o_t0 : ok11 S R t0) : hs_R scr (d + 1) 343 80 [some (.ref t0), some (.int x1), some (.int x2), some (.long y3), none, some (.int x5), w6, none] [] (S, I, L, R) = (if (I (t0 + 5) 0) ≤ x5 then hs_R scr (d + 1) 343 203 [some (.ref t0), some (.int x1), some (.int x2), some (.long y3), none, some (.long 0), none, some (.int 0)] [] (S, I, L, R) else ((hs_C scr d 279 [.ref t0, .int x1, .int x5] (S, I, L, R)).bind fun o => hs_R scr (d + 1) 343 98 [some (.ref t0), some (.int x1), some (.int x2), some (.long y3), none, some (.int x5), w6, none] (o.1.toList ++ []) o.2)) := Eq.trans (r_il d343_80 rfl) (Eq.trans (r_al_n d343_82 rfl) (Eq.trans (r_getRe d343_83 f343_35 o_t0.2.1 (o_t0.2.2.2.2.2.2.2.2.2.2.1) (Nat.le_trans o_t0.1 (Nat.le_add_right _ _))) (Eq.trans (r_ic d343_86 kI_0) (Eq.trans ((r_ialdC d343_87 (o_t0.2.2.2.2.2.2.2.2.2.2.2.1) ib_0_1995 tn_0)) (Eq.trans (r_cge d343_88 rfl) (q_ite (Eq.trans (r_lc d343_197 kL_0) (Eq.trans (r_ls (loc' := [some (.ref t0), some (.int x1), some (.int x2), some (.long y3), none, some (.long 0), none, none]) d343_198 rfl) (Eq.trans (r_ic d343_200 kI_0) (Eq.trans (r_is (loc' := [some (.ref t0), some (.int x1), some (.int x2), some (.long y3), none, some (.long 0), none, some (.int 0)]) d343_201 rfl) (rfl))))) (Eq.trans (r_al_n d343_91 rfl) (Eq.trans (r_il_n d343_92 rfl) (Eq.trans (r_il d343_93 rfl) (r_cvE (as := [.int x1, .int x5]) (r := []) d343_95 c343_349 ow279 o_t0.2.1 np279.symm rfl (hs_fitE mL279 (Nat.le_of_ble_eq_true rfl))))))))))))
theorem b343_98 {t0 : Nat} {x1 x2 x5 s0 : Int32} {y3 : Int64} {w6 : Option Value}  : hs_R scr d 343 98 [some (.ref t0), some (.int x1), some (.int x2), some (.long y3), none, some (.int x5), w6, none] [.int s0] (S, I, L, R) = (if s0 = 3 then hs_R scr d 343 191 [some (.ref t0), some (.int x1), some (.int x2), some (.long y3), none, some (.int x5), w6, none] [] (S, I, L, R) else hs_R scr d 343 109 [some (.ref t0), some (.int x1), some (.int x2), some (.long y3), none, some (.int x5), some (.int 8), none] [] (S, I, L, R)) := Eq.trans (r_ic d343_98 kI_3) (Eq.trans (r_cne d343_99 rfl) (q_ite (Eq.trans (r_goto d343_102 rfl) (rfl)) (Eq.trans (r_bp d343_105 kB_8) (Eq.trans (r_is (loc' := [some (.ref t0), some (.int x1), some (.int x2), some (.long y3), none, some (.int x5), some (.int 8), none]) d343_107 rfl) (rfl)))))
theorem b343_109 {t0 : Nat} {x1 x2 x5 x6 : Int32} {y3 : Int64} (o_t0 : ok11 S R t0) : hs_R scr d 343 109 [some (.ref t0), some (.int x1), some (.int x2), some (.long y3), none, some (.int x5), some (.int x6), none] [] (S, I, L, R) = (if x6 ≤ 0 then hs_R scr d 343 191 [some (.ref t0), some (.int x1), some (.int x2), some (.long (y3 * 16)), none, some (.int x5), some (.int x6), none] [] (S, I, (hs_u L (t0 + 10) 0 ((L (t0 + 10) 0) * (Int32.toInt64 ((16 : Int32) - (I (t0 + 5) 6))))), R) else (if hs_ib x6 9 = true then (if hs_ib (x6 - 1) 9 = true then (if hs_ib x6 9 = true then hs_R scr d 343 109 [some (.ref t0), some (.int x1), some (.int x2), some (.long y3), none, some (.int x5), some (.int (x6 + (-1))), none] [] (S, I, (hs_u L (t0 + 10) (Int32.toNatClampNeg x6) (((L (t0 + 10) (Int32.toNatClampNeg x6)) * (Int32.toInt64 ((16 : Int32) - (I (t0 + 5) 6)))) + ((L (t0 + 10) (Int32.toNatClampNeg (x6 - 1))) * (Int32.toInt64 (I (t0 + 5) 6))))), R) else none) else none) else none)) := Eq.trans (r_il d343_109 rfl) (Eq.trans (r_zle d343_111 rfl) (q_ite (Eq.trans (r_al_n d343_165 rfl) (Eq.trans (r_getRe d343_166 f343_50 o_t0.2.1 (o_t0.2.2.2.2.2.2.2.2.2.2.2.2.2.2.2.2.2.2.2.2.1) (Nat.le_trans o_t0.1 (Nat.le_add_right _ _))) (Eq.trans (r_ic d343_169 kI_0) (Eq.trans (r_dup2 d343_170 ⟨rfl, rfl⟩) (Eq.trans ((r_laldC d343_171 (o_t0.2.2.2.2.2.2.2.2.2.2.2.2.2.2.2.2.2.2.2.2.2.1) ib_0_9 tn_0)) (Eq.trans (r_bp d343_172 kB_16) (Eq.trans (r_al_n d343_174 rfl) (Eq.trans (r_getRe d343_175 f343_35 o_t0.2.1 (o_t0.2.2.2.2.2.2.2.2.2.2.1) (Nat.le_trans o_t0.1 (Nat.le_add_right _ _))) (Eq.trans (r_bp d343_178 kB_6) (Eq.trans ((r_ialdC d343_180 (o_t0.2.2.2.2.2.2.2.2.2.2.2.1) ib_6_1995 tn_6)) (Eq.trans (r_isub d343_181) (Eq.trans (r_i2l d343_182) (Eq.trans (r_lmul d343_183) (Eq.trans ((r_lastC d343_184 (o_t0.2.2.2.2.2.2.2.2.2.2.2.2.2.2.2.2.2.2.2.2.2.1) ib_0_9 tn_0)) (Eq.trans (r_ll_n d343_185 rfl) (Eq.trans (r_ldc2 d343_186 cl343_387) (Eq.trans (r_lmul d343_189) (Eq.trans (r_ls_n (loc' := [some (.ref t0), some (.int x1), some (.int x2), some (.long (y3 * 16)), none, some (.int x5), some (.int x6), none]) d343_190 rfl) (rfl))))))))))))))))))) (Eq.trans (r_al_n d343_114 rfl) (Eq.trans (r_getRe d343_115 f343_50 o_t0.2.1 (o_t0.2.2.2.2.2.2.2.2.2.2.2.2.2.2.2.2.2.2.2.2.1) (Nat.le_trans o_t0.1 (Nat.le_add_right _ _))) (Eq.trans (r_il d343_118 rfl) (Eq.trans (r_al_n d343_120 rfl) (Eq.trans (r_getRe d343_121 f343_50 o_t0.2.1 (o_t0.2.2.2.2.2.2.2.2.2.2.2.2.2.2.2.2.2.2.2.2.1) (Nat.le_trans o_t0.1 (Nat.le_add_right _ _))) (Eq.trans (r_il d343_124 rfl) (Eq.trans (r_lald d343_126 (o_t0.2.2.2.2.2.2.2.2.2.2.2.2.2.2.2.2.2.2.2.2.2.1)) (q_ite (Eq.trans (r_bp d343_127 kB_16) (Eq.trans (r_al_n d343_129 rfl) (Eq.trans (r_getRe d343_130 f343_35 o_t0.2.1 (o_t0.2.2.2.2.2.2.2.2.2.2.1) (Nat.le_trans o_t0.1 (Nat.le_add_right _ _))) (Eq.trans (r_bp d343_133 kB_6) (Eq.trans ((r_ialdC d343_135 (o_t0.2.2.2.2.2.2.2.2.2.2.2.1) ib_6_1995 tn_6)) (Eq.trans (r_isub d343_136) (Eq.trans (r_i2l d343_137) (Eq.trans (r_lmul d343_138) (Eq.trans (r_al_n d343_139 rfl) (Eq.trans (r_getRe d343_140 f343_50 o_t0.2.1 (o_t0.2.2.2.2.2.2.2.2.2.2.2.2.2.2.2.2.2.2.2.2.1) (Nat.le_trans o_t0.1 (Nat.le_add_right _ _))) (Eq.trans (r_il d343_143 rfl) (Eq.trans (r_ic d343_145 kI_1) (Eq.trans (r_isub d343_146) (Eq.trans (r_lald d343_147 (o_t0.2.2.2.2.2.2.2.2.2.2.2.2.2.2.2.2.2.2.2.2.2.1)) (q_ite (Eq.trans (r_al_n d343_148 rfl) (Eq.trans (r_getRe d343_149 f343_35 o_t0.2.1 (o_t0.2.2.2.2.2.2.2.2.2.2.1) (Nat.le_trans o_t0.1 (Nat.le_add_right _ _))) (Eq.trans (r_bp d343_152 kB_6) (Eq.trans ((r_ialdC d343_154 (o_t0.2.2.2.2.2.2.2.2.2.2.2.1) ib_6_1995 tn_6)) (Eq.trans (r_i2l d343_155) (Eq.trans (r_lmul d343_156) (Eq.trans (r_ladd d343_157) (Eq.trans (r_last d343_158 (o_t0.2.2.2.2.2.2.2.2.2.2.2.2.2.2.2.2.2.2.2.2.2.1)) (q_ite (Eq.trans (r_inc (loc' := [some (.ref t0), some (.int x1), some (.int x2), some (.long y3), none, some (.int x5), some (.int (x6 + (-1))), none]) d343_159 kI_m1 rfl rfl) (Eq.trans (r_goto d343_162 rfl) (rfl))) rfl))))))))) rfl))))))))))))))) rfl))))))))))
theorem b343_191 {t0 : Nat} {x1 x2 x5 : Int32} {y3 : Int64} {w6 : Option Value}  : hs_R scr d 343 191 [some (.ref t0), some (.int x1), some (.int x2), some (.long y3), none, some (.int x5), w6, none] [] (S, I, L, R) = hs_R scr d 343 80 [some (.ref t0), some (.int x1), some (.int x2), some (.long y3), none, some (.int (x5 + 1)), w6, none] [] (S, I, L, R) := Eq.trans (r_inc (loc' := [some (.ref t0), some (.int x1), some (.int x2), some (.long y3), none, some (.int (x5 + 1)), w6, none]) d343_191 kI_1 rfl rfl) (Eq.trans (r_goto d343_194 rfl) (rfl))
theorem b343_203 {t0 : Nat} {x1 x2 x7 : Int32} {y3 y5 : Int64} (o_t0 : ok11 S R t0) : hs_R scr (d + 1) 343 203 [some (.ref t0), some (.int x1), some (.int x2), some (.long y3), none, some (.long y5), none, some (.int x7)] [] (S, I, L, R) = (if x2 < x7 then ((hs_C scr d 344 [.ref t0, .long y5, .long y3] (S, I, L, R)).bind fun o => hs_R scr (d + 1) 343 234 [some (.ref t0), some (.int x1), some (.int x2), some (.long y3), none, some (.long y5), none, some (.int x7)] (o.1.toList ++ []) o.2) else (if hs_ib x7 9 = true then hs_R scr (d + 1) 343 203 [some (.ref t0), some (.int x1), some (.int x2), some (.long y3), none, some (.long (y5 + (L (t0 + 10) (Int32.toNatClampNeg x7)))), none, some (.int (x7 + 1))] [] (S, I, L, R) else none)) := Eq.trans (r_il d343_203 rfl) (Eq.trans (r_il_n d343_205 rfl) (Eq.trans (r_cgt d343_206 rfl) (q_ite (Eq.trans (r_al_n d343_227 rfl) (Eq.trans (r_ll d343_228 rfl) (Eq.trans (r_ll_n d343_230 rfl) (r_cvE (as := [.long y5, .long y3]) (r := []) d343_231 c343_462 ow344 o_t0.2.1 np344.symm rfl (hs_fitE mL344 (Nat.le_of_ble_eq_true rfl)))))) (Eq.trans (r_ll d343_209 rfl) (Eq.trans (r_al_n d343_211 rfl) (Eq.trans (r_getRe d343_212 f343_50 o_t0.2.1 (o_t0.2.2.2.2.2.2.2.2.2.2.2.2.2.2.2.2.2.2.2.2.1) (Nat.le_trans o_t0.1 (Nat.le_add_right _ _))) (Eq.trans (r_il d343_215 rfl) (Eq.trans (r_lald d343_217 (o_t0.2.2.2.2.2.2.2.2.2.2.2.2.2.2.2.2.2.2.2.2.2.1)) (q_ite (Eq.trans (r_ladd d343_218) (Eq.trans (r_ls (loc' := [some (.ref t0), some (.int x1), some (.int x2), some (.long y3), none, some (.long (y5 + (L (t0 + 10) (Int32.toNatClampNeg x7)))), none, some (.int x7)]) d343_219 rfl) (Eq.trans (r_inc (loc' := [some (.ref t0), some (.int x1), some (.int x2), some (.long y3), none, some (.long (y5 + (L (t0 + 10) (Int32.toNatClampNeg x7)))), none, some (.int (x7 + 1))]) d343_221 kI_1 rfl rfl) (Eq.trans (r_goto d343_224 rfl) (rfl))))) rfl)))))))))
theorem b343_234 {t0 : Nat} {x1 x2 x7 s0 : Int32} {y3 y5 : Int64}  : hs_R scr d 343 234 [some (.ref t0), some (.int x1), some (.int x2), some (.long y3), none, some (.long y5), none, some (.int x7)] [.int s0] (S, I, L, R) = (if s0 = 0 ∨ s0 = 1 then some (some (.int s0), (S, I, L, R)) else none) := r_rz d343_234 rt343
theorem e344 {t0 : Nat} {y1 : Int64} {y3 : Int64} : hs_C scr d 344 [.ref t0, .long y1, .long y3] h = hs_R scr d 344 0 [some (.ref t0), some (.long y1), none, some (.long y3), none, none, none, none, none, none, none] [] h := by rw [hs_C, mL344]; rfl
theorem b344_0 {t0 : Nat} {y1 y3 : Int64}  : hs_R scr d 344 0 [some (.ref t0), some (.long y1), none, some (.long y3), none, none, none, none, none, none, none] [] (S, I, L, R) = hs_R scr d 344 9 [some (.ref t0), some (.long y1), none, some (.long y3), none, some (.long (if 0 < y1 then y1 else -y1)), none, some (.long y3), none, none, none] [] (S, I, L, R) := Eq.trans (r_ll_n d344_0 rfl) (Eq.trans (r_absl d344_1 c344_69 rfl) (Eq.trans (r_ls (loc' := [some (.ref t0), some (.long y1), none, some (.long y3), none, some (.long (if 0 < y1 then y1 else -y1)), none, none, none, none, none]) d344_4 rfl) (Eq.trans (r_ll_n d344_6 rfl) (Eq.trans (r_ls (loc' := [some (.ref t0), some (.long y1), none, some (.long y3), none, some (.long (if 0 < y1 then y1 else -y1)), none, some (.long y3), none, none, none]) d344_7 rfl) (rfl)))))
theorem b344_9 {t0 : Nat} {y1 y3 y5 y7 : Int64} {w9 : Option Value} (o_t0 : ok11 S R t0) : hs_R scr d 344 9 [some (.ref t0), some (.long y1), none, some (.long y3), none, some (.long y5), none, some (.long y7), none, w9, none] [] (S, I, L, R) = (if (lg_cmp y7 0) = 0 then (if y5 = 0 then none else (if y5 = 0 then none else some (some (.int 1), (S, I, (hs_u (hs_u L t0 2 (y1 / y5)) t0 3 (y3 / y5)), R)))) else (if y7 = 0 then none else hs_R scr d 344 9 [some (.ref t0), some (.long y1), none, some (.long y3), none, some (.long y7), none, some (.long (y5 - y5 / y7 * y7)), none, some (.long (y5 - y5 / y7 * y7)), none] [] (S, I, L, R))) := Eq.trans (r_ll d344_9 rfl) (Eq.trans (r_lc d344_11 kL_0) (Eq.trans (r_lcmp d344_12) (Eq.trans (r_zeq d344_13 rfl) (q_ite (Eq.trans (r_al_n d344_34 rfl) (Eq.trans (r_ll_n d344_35 rfl) (Eq.trans (r_ll d344_36 rfl) (Eq.trans (r_ldiv d344_38) (q_ite rfl (Eq.trans (r_putL d344_39 f344_66 o_t0.2.1) (Eq.trans (r_al_n d344_42 rfl) (Eq.trans (r_ll_n d344_43 rfl) (Eq.trans (r_ll d344_44 rfl) (Eq.trans (r_ldiv d344_46) (q_ite rfl (Eq.trans (r_putL d344_47 f344_7 o_t0.2.1) (Eq.trans (r_ic d344_50 kI_1) ((r_rz d344_51 rt344).trans (if_pos (Or.inr rfl)))))))))))))))) (Eq.trans (r_ll d344_16 rfl) (Eq.trans (r_ll d344_18 rfl) (Eq.trans (r_lrem d344_20) (q_ite rfl (Eq.trans (r_ls (loc' := [some (.ref t0), some (.long y1), none, some (.long y3), none, some (.long y5), none, some (.long y7), none, some (.long (y5 - y5 / y7 * y7)), none]) d344_21 rfl) (Eq.trans (r_ll d344_23 rfl) (Eq.trans (r_ls (loc' := [some (.ref t0), some (.long y1), none, some (.long y3), none, some (.long y7), none, some (.long y7), none, some (.long (y5 - y5 / y7 * y7)), none]) d344_25 rfl) (Eq.trans (r_ll d344_27 rfl) (Eq.trans (r_ls (loc' := [some (.ref t0), some (.long y1), none, some (.long y3), none, some (.long y7), none, some (.long (y5 - y5 / y7 * y7)), none, some (.long (y5 - y5 / y7 * y7)), none]) d344_29 rfl) (Eq.trans (r_goto d344_31 rfl) (rfl)))))))))))))))
theorem e345 {t0 : Nat} {x1 : Int32} : hs_C scr d 345 [.ref t0, .int x1] h = hs_R scr d 345 0 [some (.ref t0), some (.int x1)] [] h := by rw [hs_C, mL345]; rfl
theorem b345_0 {t0 : Nat} {x1 : Int32} (o_t0 : ok11 S R t0) : hs_R scr (d + 1) 345 0 [some (.ref t0), some (.int x1)] [] (S, I, L, R) = ((hs_C scr d 274 [.ref t0, .int x1] (S, (hs_u (hs_u I t0 1 0) t0 0 0), L, R)).bind fun o => hs_R scr (d + 1) 345 15 [some (.ref t0), some (.int x1)] (o.1.toList ++ []) o.2) := Eq.trans (r_al_n d345_0 rfl) (Eq.trans (r_ic d345_1 kI_0) (Eq.trans (r_putI d345_2 f345_60 o_t0.2.1) (Eq.trans (r_al_n d345_5 rfl) (Eq.trans (r_ic d345_6 kI_0) (Eq.trans (r_putI d345_7 f345_63 o_t0.2.1) (Eq.trans (r_al_n d345_10 rfl) (Eq.trans (r_il_n d345_11 rfl) (r_cvE (as := [.int x1]) (r := []) d345_12 c345_343 ow274 o_t0.2.1 np274.symm rfl (hs_fitE mL274 (Nat.le_of_ble_eq_true rfl))))))))))
theorem b345_15 {t0 : Nat} {x1 s0 : Int32} (o_t0 : ok11 S R t0) : hs_R scr (d + 1) 345 15 [some (.ref t0), some (.int x1)] [.int s0] (S, I, L, R) = (if s0 = 0 then ((hs_C scr d 197 [.ref t0, .int 2] (S, I, L, R)).bind fun o => hs_R scr (d + 1) 345 45 [some (.ref t0), some (.int x1)] (o.1.toList ++ []) o.2) else (if hs_ib ((42 : Int32) + x1) 1995 = true then ((hs_C scr d 270 [.ref t0] (S, I, L, R)).bind fun o => hs_R scr (d + 1) 345 33 [some (.ref t0), some (.int x1)] (o.1.toList ++ [.long (Int32.toInt64 (I (t0 + 5) (Int32.toNatClampNeg ((42 : Int32) + x1)))), .ref t0]) o.2) else none)) := Eq.trans (r_zeq d345_15 rfl) (q_ite (Eq.trans (r_al_n d345_40 rfl) (Eq.trans (r_ic d345_41 kI_2) (r_cvE (as := [.int 2]) (r := []) d345_42 c345_75 ow197 o_t0.2.1 np197.symm rfl (hs_fitE mL197 (Nat.le_of_ble_eq_true rfl))))) (Eq.trans (r_al_n d345_18 rfl) (Eq.trans (r_al_n d345_19 rfl) (Eq.trans (r_getRe d345_20 f345_35 o_t0.2.1 (o_t0.2.2.2.2.2.2.2.2.2.2.1) (Nat.le_trans o_t0.1 (Nat.le_add_right _ _))) (Eq.trans (r_bp d345_23 kB_42) (Eq.trans (r_il_n d345_25 rfl) (Eq.trans (r_iadd d345_26) (Eq.trans (r_iald d345_27 (o_t0.2.2.2.2.2.2.2.2.2.2.2.1)) (q_ite (Eq.trans (r_i2l d345_28) (Eq.trans (r_al_n d345_29 rfl) (r_cvE (as := []) (r := [.long (Int32.toInt64 (I (t0 + 5) (Int32.toNatClampNeg ((42 : Int32) + x1)))), .ref t0]) d345_30 c345_337 ow270 o_t0.2.1 np270.symm rfl (hs_fitE mL270 (Nat.le_of_ble_eq_true rfl))))) rfl)))))))))
theorem b345_33 {t0 u0 : Nat} {x1 s2 : Int32} {v1 : Int64} (o_u0 : ok11 S R u0) : hs_R scr (d + 1) 345 33 [some (.ref t0), some (.int x1)] [.int s2, .long v1, .ref u0] (S, I, L, R) = ((hs_C scr d 344 [.ref u0, .long v1, .long (Int32.toInt64 s2)] (S, I, L, R)).bind fun o => hs_R scr (d + 1) 345 37 [some (.ref t0), some (.int x1)] (o.1.toList ++ []) o.2) := Eq.trans (r_i2l d345_33) (r_cvE (as := [.long v1, .long (Int32.toInt64 s2)]) (r := []) d345_34 c345_462 ow344 o_u0.2.1 np344.symm rfl (hs_fitE mL344 (Nat.le_of_ble_eq_true rfl)))
theorem b345_37 {t0 : Nat} {x1 s0 : Int32}  : hs_R scr d 345 37 [some (.ref t0), some (.int x1)] [.int s0] (S, I, L, R) = hs_R scr d 345 45 [some (.ref t0), some (.int x1)] [.int s0] (S, I, L, R) := Eq.trans (r_goto d345_37 rfl) (rfl)
theorem b345_45 {t0 : Nat} {x1 s0 : Int32}  : hs_R scr d 345 45 [some (.ref t0), some (.int x1)] [.int s0] (S, I, L, R) = (if s0 = 0 ∨ s0 = 1 then some (some (.int s0), (S, I, L, R)) else none) := r_rz d345_45 rt345
theorem e346 {t0 : Nat} {x1 : Int32} : hs_C scr d 346 [.ref t0, .int x1] h = hs_R scr d 346 0 [some (.ref t0), some (.int x1)] [] h := by rw [hs_C, mL346]; rfl
theorem b346_0 {t0 : Nat} {x1 : Int32} (o_t0 : ok11 S R t0) : hs_R scr (d + 1) 346 0 [some (.ref t0), some (.int x1)] [] (S, I, L, R) = ((hs_C scr d 223 [.long (Int32.toInt64 x1), .long 0, .long 9999] (S, (hs_u (hs_u I t0 1 0) t0 0 0), L, R)).bind fun o => hs_R scr (d + 1) 346 19 [some (.ref t0), some (.int x1)] (o.1.toList ++ []) o.2) := Eq.trans (r_al_n d346_0 rfl) (Eq.trans (r_ic d346_1 kI_0) (Eq.trans (r_putI d346_2 f346_60 o_t0.2.1) (Eq.trans (r_al_n d346_5 rfl) (Eq.trans (r_ic d346_6 kI_0) (Eq.trans (r_putI d346_7 f346_63 o_t0.2.1) (Eq.trans (r_il_n d346_10 rfl) (Eq.trans (r_i2l d346_11) (Eq.trans (r_lc d346_12 kL_0) (Eq.trans (r_ldc2 d346_13 cl346_517) (r_cs (as := [.long (Int32.toInt64 x1), .long 0, .long 9999]) (r := []) d346_16 c346_95 np223.symm rfl (hs_fitE mL223 (Nat.le_of_ble_eq_true rfl))))))))))))
theorem b346_19 {t0 : Nat} {x1 s0 : Int32} (o_t0 : ok11 S R t0) : hs_R scr (d + 1) 346 19 [some (.ref t0), some (.int x1)] [.int s0] (S, I, L, R) = (if s0 = 0 then ((hs_C scr d 265 [.ref t0, .int 5] (S, I, L, R)).bind fun o => hs_R scr (d + 1) 346 27 [some (.ref t0), some (.int x1)] (o.1.toList ++ []) o.2) else (if (I (t0 + 5) 127) = 0 then ((hs_C scr d 265 [.ref t0, .int 8] (S, I, L, R)).bind fun o => hs_R scr (d + 1) 346 44 [some (.ref t0), some (.int x1)] (o.1.toList ++ []) o.2) else ((hs_C scr d 347 [.ref t0, .int x1] (S, I, L, R)).bind fun o => hs_R scr (d + 1) 346 50 [some (.ref t0), some (.int x1)] (o.1.toList ++ []) o.2))) := Eq.trans (r_zne d346_19 rfl) (q_ite (Eq.trans (r_al_n d346_22 rfl) (Eq.trans (r_ic d346_23 kI_5) (r_cvE (as := [.int 5]) (r := []) d346_24 c346_322 ow265 o_t0.2.1 np265.symm rfl (hs_fitE mL265 (Nat.le_of_ble_eq_true rfl))))) (Eq.trans (r_al_n d346_28 rfl) (Eq.trans (r_getRe d346_29 f346_35 o_t0.2.1 (o_t0.2.2.2.2.2.2.2.2.2.2.1) (Nat.le_trans o_t0.1 (Nat.le_add_right _ _))) (Eq.trans (r_bp d346_32 kB_127) (Eq.trans ((r_ialdC d346_34 (o_t0.2.2.2.2.2.2.2.2.2.2.2.1) ib_127_1995 tn_127)) (Eq.trans (r_zne d346_35 rfl) (q_ite (Eq.trans (r_al_n d346_38 rfl) (Eq.trans (r_bp d346_39 kB_8) (r_cvE (as := [.int 8]) (r := []) d346_41 c346_322 ow265 o_t0.2.1 np265.symm rfl (hs_fitE mL265 (Nat.le_of_ble_eq_true rfl))))) (Eq.trans (r_al_n d346_45 rfl) (Eq.trans (r_il_n d346_46 rfl) (r_cvE (as := [.int x1]) (r := []) d346_47 c346_519 ow347 o_t0.2.1 np347.symm rfl (hs_fitE mL347 (Nat.le_of_ble_eq_true rfl))))))))))))
theorem b346_27 {t0 : Nat} {x1 s0 : Int32}  : hs_R scr d 346 27 [some (.ref t0), some (.int x1)] [.int s0] (S, I, L, R) = some (some (.int s0), (S, I, L, R)) := r_ri d346_27 rt346
theorem b346_44 {t0 : Nat} {x1 s0 : Int32}  : hs_R scr d 346 44 [some (.ref t0), some (.int x1)] [.int s0] (S, I, L, R) = some (some (.int s0), (S, I, L, R)) := r_ri d346_44 rt346
theorem b346_50 {t0 : Nat} {x1 : Int32} (o_t0 : ok11 S R t0) : hs_R scr d 346 50 [some (.ref t0), some (.int x1)] [] (S, I, L, R) = some (some (.int ((hs_u (hs_u (hs_u (hs_u (hs_u (hs_u I (t0 + 11) 0 (I t0 35)) (t0 + 11) 1 ((hs_u I (t0 + 11) 0 (I t0 35)) t0 36)) (t0 + 11) 2 ((hs_u (hs_u I (t0 + 11) 0 (I t0 35)) (t0 + 11) 1 ((hs_u I (t0 + 11) 0 (I t0 35)) t0 36)) t0 37)) (t0 + 11) 3 ((hs_u (hs_u (hs_u I (t0 + 11) 0 (I t0 35)) (t0 + 11) 1 ((hs_u I (t0 + 11) 0 (I t0 35)) t0 36)) (t0 + 11) 2 ((hs_u (hs_u I (t0 + 11) 0 (I t0 35)) (t0 + 11) 1 ((hs_u I (t0 + 11) 0 (I t0 35)) t0 36)) t0 37)) t0 38)) (t0 + 11) 4 ((hs_u (hs_u (hs_u (hs_u I (t0 + 11) 0 (I t0 35)) (t0 + 11) 1 ((hs_u I (t0 + 11) 0 (I t0 35)) t0 36)) (t0 + 11) 2 ((hs_u (hs_u I (t0 + 11) 0 (I t0 35)) (t0 + 11) 1 ((hs_u I (t0 + 11) 0 (I t0 35)) t0 36)) t0 37)) (t0 + 11) 3 ((hs_u (hs_u (hs_u I (t0 + 11) 0 (I t0 35)) (t0 + 11) 1 ((hs_u I (t0 + 11) 0 (I t0 35)) t0 36)) (t0 + 11) 2 ((hs_u (hs_u I (t0 + 11) 0 (I t0 35)) (t0 + 11) 1 ((hs_u I (t0 + 11) 0 (I t0 35)) t0 36)) t0 37)) t0 38)) t0 39)) t0 31 1) t0 34)), (S, (hs_u (hs_u (hs_u (hs_u (hs_u (hs_u I (t0 + 11) 0 (I t0 35)) (t0 + 11) 1 ((hs_u I (t0 + 11) 0 (I t0 35)) t0 36)) (t0 + 11) 2 ((hs_u (hs_u I (t0 + 11) 0 (I t0 35)) (t0 + 11) 1 ((hs_u I (t0 + 11) 0 (I t0 35)) t0 36)) t0 37)) (t0 + 11) 3 ((hs_u (hs_u (hs_u I (t0 + 11) 0 (I t0 35)) (t0 + 11) 1 ((hs_u I (t0 + 11) 0 (I t0 35)) t0 36)) (t0 + 11) 2 ((hs_u (hs_u I (t0 + 11) 0 (I t0 35)) (t0 + 11) 1 ((hs_u I (t0 + 11) 0 (I t0 35)) t0 36)) t0 37)) t0 38)) (t0 + 11) 4 ((hs_u (hs_u (hs_u (hs_u I (t0 + 11) 0 (I t0 35)) (t0 + 11) 1 ((hs_u I (t0 + 11) 0 (I t0 35)) t0 36)) (t0 + 11) 2 ((hs_u (hs_u I (t0 + 11) 0 (I t0 35)) (t0 + 11) 1 ((hs_u I (t0 + 11) 0 (I t0 35)) t0 36)) t0 37)) (t0 + 11) 3 ((hs_u (hs_u (hs_u I (t0 + 11) 0 (I t0 35)) (t0 + 11) 1 ((hs_u I (t0 + 11) 0 (I t0 35)) t0 36)) (t0 + 11) 2 ((hs_u (hs_u I (t0 + 11) 0 (I t0 35)) (t0 + 11) 1 ((hs_u I (t0 + 11) 0 (I t0 35)) t0 36)) t0 37)) t0 38)) t0 39)) t0 31 1), L, R)) := Eq.trans (r_al_n d346_50 rfl) (Eq.trans (r_getRe d346_51 f346_53 o_t0.2.1 (o_t0.2.2.2.2.2.2.2.2.2.2.2.2.2.2.2.2.2.2.2.2.2.2.1) (Nat.le_trans o_t0.1 (Nat.le_add_right _ _))) (Eq.trans (r_ic d346_54 kI_0) (Eq.trans (r_al_n d346_55 rfl) (Eq.trans (r_getI d346_56 f346_502 o_t0.2.1) (Eq.trans ((r_iastC d346_59 (o_t0.2.2.2.2.2.2.2.2.2.2.2.2.2.2.2.2.2.2.2.2.2.2.2) ib_0_5 tn_0)) (Eq.trans (r_al_n d346_60 rfl) (Eq.trans (r_getRe d346_61 f346_53 o_t0.2.1 (o_t0.2.2.2.2.2.2.2.2.2.2.2.2.2.2.2.2.2.2.2.2.2.2.1) (Nat.le_trans o_t0.1 (Nat.le_add_right _ _))) (Eq.trans (r_ic d346_64 kI_1) (Eq.trans (r_al_n d346_65 rfl) (Eq.trans (r_getI d346_66 f346_470 o_t0.2.1) (Eq.trans ((r_iastC d346_69 (o_t0.2.2.2.2.2.2.2.2.2.2.2.2.2.2.2.2.2.2.2.2.2.2.2) ib_1_5 tn_1)) (Eq.trans (r_al_n d346_70 rfl) (Eq.trans (r_getRe d346_71 f346_53 o_t0.2.1 (o_t0.2.2.2.2.2.2.2.2.2.2.2.2.2.2.2.2.2.2.2.2.2.2.1) (Nat.le_trans o_t0.1 (Nat.le_add_right _ _))) (Eq.trans (r_ic d346_74 kI_2) (Eq.trans (r_al_n d346_75 rfl) (Eq.trans (r_getI d346_76 f346_473 o_t0.2.1) (Eq.trans ((r_iastC d346_79 (o_t0.2.2.2.2.2.2.2.2.2.2.2.2.2.2.2.2.2.2.2.2.2.2.2) ib_2_5 tn_2)) (Eq.trans (r_al_n d346_80 rfl) (Eq.trans (r_getRe d346_81 f346_53 o_t0.2.1 (o_t0.2.2.2.2.2.2.2.2.2.2.2.2.2.2.2.2.2.2.2.2.2.2.1) (Nat.le_trans o_t0.1 (Nat.le_add_right _ _))) (Eq.trans (r_ic d346_84 kI_3) (Eq.trans (r_al_n d346_85 rfl) (Eq.trans (r_getI d346_86 f346_476 o_t0.2.1) (Eq.trans ((r_iastC d346_89 (o_t0.2.2.2.2.2.2.2.2.2.2.2.2.2.2.2.2.2.2.2.2.2.2.2) ib_3_5 tn_3)) (Eq.trans (r_al_n d346_90 rfl) (Eq.trans (r_getRe d346_91 f346_53 o_t0.2.1 (o_t0.2.2.2.2.2.2.2.2.2.2.2.2.2.2.2.2.2.2.2.2.2.2.1) (Nat.le_trans o_t0.1 (Nat.le_add_right _ _))) (Eq.trans (r_ic d346_94 kI_4) (Eq.trans (r_al_n d346_95 rfl) (Eq.trans (r_getI d346_96 f346_499 o_t0.2.1) (Eq.trans ((r_iastC d346_99 (o_t0.2.2.2.2.2.2.2.2.2.2.2.2.2.2.2.2.2.2.2.2.2.2.2) ib_4_5 tn_4)) (Eq.trans (r_al_n d346_100 rfl) (Eq.trans (r_ic d346_101 kI_1) (Eq.trans ((r_putZ d346_102 f346_522 o_t0.2.1).trans (if_pos (Or.inr rfl))) (Eq.trans (r_al_n d346_105 rfl) (Eq.trans (r_getI d346_106 f346_492 o_t0.2.1) (r_ri d346_109 rt346)))))))))))))))))))))))))))))))))))
theorem e347 {t0 : Nat} {x1 : Int32} : hs_C scr d 347 [.ref t0, .int x1] h = hs_R scr d 347 0 [some (.ref t0), some (.int x1)] [] h := by rw [hs_C, mL347]; rfl
theorem b347_0 {t0 : Nat} {x1 : Int32} (o_t0 : ok11 S R t0) : hs_R scr (d + 1) 347 0 [some (.ref t0), some (.int x1)] [] (S, I, L, R) = ((hs_C scr d 348 [.ref t0, .int 0, .int ((hs_u (hs_u (hs_u (hs_u (hs_u (hs_u (hs_u (hs_u I t0 33 x1) t0 34 0) t0 35 0) t0 36 0) t0 37 0) t0 38 0) t0 39 0) t0 32 0) (t0 + 5) 128)] (S, (hs_u (hs_u (hs_u (hs_u (hs_u (hs_u (hs_u (hs_u I t0 33 x1) t0 34 0) t0 35 0) t0 36 0) t0 37 0) t0 38 0) t0 39 0) t0 32 0), L, R)).bind fun o => hs_R scr (d + 1) 347 53 [some (.ref t0), some (.int x1)] (o.1.toList ++ []) o.2) := Eq.trans (r_al_n d347_0 rfl) (Eq.trans (r_il_n d347_1 rfl) (Eq.trans (r_putI d347_2 f347_466 o_t0.2.1) (Eq.trans (r_al_n d347_5 rfl) (Eq.trans (r_ic d347_6 kI_0) (Eq.trans (r_putI d347_7 f347_492 o_t0.2.1) (Eq.trans (r_al_n d347_10 rfl) (Eq.trans (r_ic d347_11 kI_0) (Eq.trans (r_putI d347_12 f347_502 o_t0.2.1) (Eq.trans (r_al_n d347_15 rfl) (Eq.trans (r_ic d347_16 kI_0) (Eq.trans (r_putI d347_17 f347_470 o_t0.2.1) (Eq.trans (r_al_n d347_20 rfl) (Eq.trans (r_ic d347_21 kI_0) (Eq.trans (r_putI d347_22 f347_473 o_t0.2.1) (Eq.trans (r_al_n d347_25 rfl) (Eq.trans (r_ic d347_26 kI_0) (Eq.trans (r_putI d347_27 f347_476 o_t0.2.1) (Eq.trans (r_al_n d347_30 rfl) (Eq.trans (r_ic d347_31 kI_0) (Eq.trans (r_putI d347_32 f347_499 o_t0.2.1) (Eq.trans (r_al_n d347_35 rfl) (Eq.trans (r_ic d347_36 kI_0) (Eq.trans ((r_putZ d347_37 f347_495 o_t0.2.1).trans (if_pos (Or.inl rfl))) (Eq.trans (r_al_n d347_40 rfl) (Eq.trans (r_ic d347_41 kI_0) (Eq.trans (r_al_n d347_42 rfl) (Eq.trans (r_getRe d347_43 f347_35 o_t0.2.1 (o_t0.2.2.2.2.2.2.2.2.2.2.1) (Nat.le_trans o_t0.1 (Nat.le_add_right _ _))) (Eq.trans (r_sp d347_46 kS_128) (Eq.trans ((r_ialdC d347_49 (o_t0.2.2.2.2.2.2.2.2.2.2.2.1) ib_128_1995 tn_128)) (r_cvE (as := [.int 0, .int ((hs_u (hs_u (hs_u (hs_u (hs_u (hs_u (hs_u (hs_u I t0 33 x1) t0 34 0) t0 35 0) t0 36 0) t0 37 0) t0 38 0) t0 39 0) t0 32 0) (t0 + 5) 128)]) (r := []) d347_50 c347_511 ow348 o_t0.2.1 np348.symm rfl (hs_fitE mL348 (Nat.le_of_ble_eq_true rfl))))))))))))))))))))))))))))))))
theorem b347_53 {t0 : Nat} {x1 : Int32}  : hs_R scr d 347 53 [some (.ref t0), some (.int x1)] [] (S, I, L, R) = some (none, (S, I, L, R)) := r_rv d347_53 rt347
theorem e348 {t0 : Nat} {x1 : Int32} {x2 : Int32} : hs_C scr d 348 [.ref t0, .int x1, .int x2] h = hs_R scr d 348 0 [some (.ref t0), some (.int x1), some (.int x2), none] [] h := by rw [hs_C, mL348]; rfl
theorem b348_0 {t0 : Nat} {x1 x2 : Int32}  : hs_R scr d 348 0 [some (.ref t0), some (.int x1), some (.int x2), none] [] (S, I, L, R) = hs_R scr d 348 2 [some (.ref t0), some (.int x1), some (.int x2), some (.int x1)] [] (S, I, L, R) := Eq.trans (r_il_n d348_0 rfl) (Eq.trans (r_is_n (loc' := [some (.ref t0), some (.int x1), some (.int x2), some (.int x1)]) d348_1 rfl) (rfl))
theorem b348_2 {t0 : Nat} {x1 x2 x3 : Int32} (o_t0 : ok11 S R t0) : hs_R scr (d + 1) 348 2 [some (.ref t0), some (.int x1), some (.int x2), some (.int x3)] [] (S, I, L, R) = (if x2 ≤ x3 then hs_R scr (d + 1) 348 39 [some (.ref t0), some (.int x1), some (.int x2), some (.int x3)] [] (S, I, L, R) else (if (I t0 32) = 0 then ((hs_C scr d 349 [.ref t0, .int x3] (S, I, L, R)).bind fun o => hs_R scr (d + 1) 348 19 [some (.ref t0), some (.int x1), some (.int x2), some (.int x3)] (o.1.toList ++ []) o.2) else hs_R scr (d + 1) 348 39 [some (.ref t0), some (.int x1), some (.int x2), some (.int x3)] [] (S, I, L, R))) := Eq.trans (r_il_n d348_2 rfl) (Eq.trans (r_il_n d348_3 rfl) (Eq.trans (r_cge d348_4 rfl) (q_ite (rfl) (Eq.trans (r_al_n d348_7 rfl) (Eq.trans (r_getZ d348_8 f348_495 o_t0.2.1) (Eq.trans (r_zne d348_11 rfl) (q_ite (Eq.trans (r_al_n d348_14 rfl) (Eq.trans (r_il_n d348_15 rfl) (r_cvE (as := [.int x3]) (r := []) d348_16 c348_514 ow349 o_t0.2.1 np349.symm rfl (hs_fitE mL349 (Nat.le_of_ble_eq_true rfl))))) (rfl))))))))
theorem b348_19 {t0 : Nat} {x1 x2 x3 : Int32} (o_t0 : ok11 S R t0) : hs_R scr d 348 19 [some (.ref t0), some (.int x1), some (.int x2), some (.int x3)] [] (S, I, L, R) = (if hs_ib (((129 : Int32) + ((9 : Int32) * x3)) + 8) 1995 = true then hs_R scr d 348 2 [some (.ref t0), some (.int x1), some (.int x2), some (.int (I (t0 + 5) (Int32.toNatClampNeg (((129 : Int32) + ((9 : Int32) * x3)) + 8))))] [] (S, I, L, R) else none) := Eq.trans (r_al_n d348_19 rfl) (Eq.trans (r_getRe d348_20 f348_35 o_t0.2.1 (o_t0.2.2.2.2.2.2.2.2.2.2.1) (Nat.le_trans o_t0.1 (Nat.le_add_right _ _))) (Eq.trans (r_sp d348_23 kS_129) (Eq.trans (r_bp d348_26 kB_9) (Eq.trans (r_il_n d348_28 rfl) (Eq.trans (r_imul d348_29) (Eq.trans (r_iadd d348_30) (Eq.trans (r_bp d348_31 kB_8) (Eq.trans (r_iadd d348_33) (Eq.trans (r_iald d348_34 (o_t0.2.2.2.2.2.2.2.2.2.2.2.1)) (q_ite (Eq.trans (r_is_n (loc' := [some (.ref t0), some (.int x1), some (.int x2), some (.int (I (t0 + 5) (Int32.toNatClampNeg (((129 : Int32) + ((9 : Int32) * x3)) + 8))))]) d348_35 rfl) (Eq.trans (r_goto d348_36 rfl) (rfl))) rfl))))))))))
theorem b348_39 {t0 : Nat} {x1 x2 x3 : Int32}  : hs_R scr d 348 39 [some (.ref t0), some (.int x1), some (.int x2), some (.int x3)] [] (S, I, L, R) = some (none, (S, I, L, R)) := r_rv d348_39 rt348
end BB

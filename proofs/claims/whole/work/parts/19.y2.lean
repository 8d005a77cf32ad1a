/-! blocks: written by gen/mkblocks.py -/
theorem c16_97 : hs_cal (hs_own 16) 97 = some (1, 17) := by decide +kernel
theorem c16_101 : hs_cal (hs_own 16) 101 = some (0, 18) := by decide +kernel
theorem c16_104 : hs_cal (hs_own 16) 104 = some (0, 19) := by decide +kernel
theorem c16_108 : hs_cal (hs_own 16) 108 = some (0, 20) := by decide +kernel
theorem c21_101 : hs_cal (hs_own 21) 101 = some (0, 18) := by decide +kernel
theorem c21_108 : hs_cal (hs_own 21) 108 = some (0, 20) := by decide +kernel
theorem c21_112 : hs_cal (hs_own 21) 112 = some (0, 22) := by decide +kernel
theorem c21_116 : hs_cal (hs_own 21) 116 = some (0, 25) := by decide +kernel
theorem c22_97 : hs_cal (hs_own 22) 97 = some (1, 17) := by decide +kernel
theorem c22_128 : hs_cal (hs_own 22) 128 = some (0, 23) := by decide +kernel
theorem c22_402 : hs_cal (hs_own 22) 402 = some (0, 24) := by decide +kernel
theorem c27_112 : hs_cal (hs_own 27) 112 = some (0, 22) := by decide +kernel
theorem c27_120 : hs_cal (hs_own 27) 120 = some (0, 28) := by decide +kernel
theorem c29_97 : hs_cal (hs_own 29) 97 = some (1, 17) := by decide +kernel
theorem c29_101 : hs_cal (hs_own 29) 101 = some (0, 18) := by decide +kernel
theorem c29_108 : hs_cal (hs_own 29) 108 = some (0, 20) := by decide +kernel
theorem c29_128 : hs_cal (hs_own 29) 128 = some (0, 23) := by decide +kernel
theorem c29_134 : hs_cal (hs_own 29) 134 = some (0, 30) := by decide +kernel
theorem c29_138 : hs_cal (hs_own 29) 138 = some (5, 0) := by decide +kernel
theorem c31_144 : hs_cal (hs_own 31) 144 = some (0, 32) := by decide +kernel
theorem c31_147 : hs_cal (hs_own 31) 147 = some (0, 33) := by decide +kernel
theorem c34_120 : hs_cal (hs_own 34) 120 = some (0, 28) := by decide +kernel
theorem c34_154 : hs_cal (hs_own 34) 154 = some (0, 35) := by decide +kernel
theorem c34_157 : hs_cal (hs_own 34) 157 = some (0, 43) := by decide +kernel
theorem c34_161 : hs_cal (hs_own 34) 161 = some (0, 67) := by decide +kernel
theorem c34_173 : hs_cal (hs_own 34) 173 = some (0, 68) := by decide +kernel
theorem c69_120 : hs_cal (hs_own 69) 120 = some (0, 28) := by decide +kernel
theorem c69_154 : hs_cal (hs_own 69) 154 = some (0, 35) := by decide +kernel
theorem c69_173 : hs_cal (hs_own 69) 173 = some (0, 68) := by decide +kernel
theorem c69_180 : hs_cal (hs_own 69) 180 = some (0, 70) := by decide +kernel
theorem c80_120 : hs_cal (hs_own 80) 120 = some (0, 28) := by decide +kernel
theorem c80_173 : hs_cal (hs_own 80) 173 = some (0, 68) := by decide +kernel
theorem c80_193 : hs_cal (hs_own 80) 193 = some (0, 81) := by decide +kernel
theorem c80_196 : hs_cal (hs_own 80) 196 = some (0, 82) := by decide +kernel
theorem c88_120 : hs_cal (hs_own 88) 120 = some (0, 28) := by decide +kernel
theorem c88_173 : hs_cal (hs_own 88) 173 = some (0, 68) := by decide +kernel
theorem c88_199 : hs_cal (hs_own 88) 199 = some (0, 89) := by decide +kernel
theorem c90_120 : hs_cal (hs_own 90) 120 = some (0, 28) := by decide +kernel
theorem c90_173 : hs_cal (hs_own 90) 173 = some (0, 68) := by decide +kernel
theorem c90_214 : hs_cal (hs_own 90) 214 = some (0, 91) := by decide +kernel
theorem c92_120 : hs_cal (hs_own 92) 120 = some (0, 28) := by decide +kernel
theorem c92_173 : hs_cal (hs_own 92) 173 = some (0, 68) := by decide +kernel
theorem c93_120 : hs_cal (hs_own 93) 120 = some (0, 28) := by decide +kernel
theorem c93_173 : hs_cal (hs_own 93) 173 = some (0, 68) := by decide +kernel
theorem c94_120 : hs_cal (hs_own 94) 120 = some (0, 28) := by decide +kernel
theorem c94_173 : hs_cal (hs_own 94) 173 = some (0, 68) := by decide +kernel
theorem c94_199 : hs_cal (hs_own 94) 199 = some (0, 89) := by decide +kernel
theorem c94_232 : hs_cal (hs_own 94) 232 = some (0, 95) := by decide +kernel
theorem c94_235 : hs_cal (hs_own 94) 235 = some (0, 96) := by decide +kernel
theorem c97_120 : hs_cal (hs_own 97) 120 = some (0, 28) := by decide +kernel
theorem c97_173 : hs_cal (hs_own 97) 173 = some (0, 68) := by decide +kernel
theorem c98_97 : hs_cal (hs_own 98) 97 = some (1, 17) := by decide +kernel
theorem c98_116 : hs_cal (hs_own 98) 116 = some (0, 25) := by decide +kernel
theorem c98_120 : hs_cal (hs_own 98) 120 = some (0, 28) := by decide +kernel
theorem c98_128 : hs_cal (hs_own 98) 128 = some (0, 23) := by decide +kernel
theorem c98_134 : hs_cal (hs_own 98) 134 = some (0, 30) := by decide +kernel
theorem c98_173 : hs_cal (hs_own 98) 173 = some (0, 68) := by decide +kernel
theorem c99_120 : hs_cal (hs_own 99) 120 = some (0, 28) := by decide +kernel
theorem c99_173 : hs_cal (hs_own 99) 173 = some (0, 68) := by decide +kernel
theorem c99_247 : hs_cal (hs_own 99) 247 = some (0, 100) := by decide +kernel
theorem c99_250 : hs_cal (hs_own 99) 250 = some (0, 86) := by decide +kernel
theorem c104_101 : hs_cal (hs_own 104) 101 = some (0, 18) := by decide +kernel
theorem c104_108 : hs_cal (hs_own 104) 108 = some (0, 20) := by decide +kernel
theorem c104_254 : hs_cal (hs_own 104) 254 = some (0, 105) := by decide +kernel
theorem c106_120 : hs_cal (hs_own 106) 120 = some (0, 28) := by decide +kernel
theorem c106_173 : hs_cal (hs_own 106) 173 = some (0, 68) := by decide +kernel
theorem c106_258 : hs_cal (hs_own 106) 258 = some (0, 107) := by decide +kernel
theorem c107_199 : hs_cal (hs_own 107) 199 = some (0, 89) := by decide +kernel
theorem c108_120 : hs_cal (hs_own 108) 120 = some (0, 28) := by decide +kernel
theorem c108_173 : hs_cal (hs_own 108) 173 = some (0, 68) := by decide +kernel
theorem c108_262 : hs_cal (hs_own 108) 262 = some (0, 109) := by decide +kernel
theorem c108_265 : hs_cal (hs_own 108) 265 = some (0, 110) := by decide +kernel
theorem c109_258 : hs_cal (hs_own 109) 258 = some (0, 107) := by decide +kernel
theorem c111_120 : hs_cal (hs_own 111) 120 = some (0, 28) := by decide +kernel
theorem c111_173 : hs_cal (hs_own 111) 173 = some (0, 68) := by decide +kernel
theorem c111_262 : hs_cal (hs_own 111) 262 = some (0, 109) := by decide +kernel
theorem c111_265 : hs_cal (hs_own 111) 265 = some (0, 110) := by decide +kernel
theorem c111_268 : hs_cal (hs_own 111) 268 = some (0, 112) := by decide +kernel
theorem c113_120 : hs_cal (hs_own 113) 120 = some (0, 28) := by decide +kernel
theorem c113_173 : hs_cal (hs_own 113) 173 = some (0, 68) := by decide +kernel
theorem c113_271 : hs_cal (hs_own 113) 271 = some (0, 114) := by decide +kernel
theorem c115_101 : hs_cal (hs_own 115) 101 = some (0, 18) := by decide +kernel
theorem c115_108 : hs_cal (hs_own 115) 108 = some (0, 20) := by decide +kernel
theorem c115_258 : hs_cal (hs_own 115) 258 = some (0, 107) := by decide +kernel
theorem c116_101 : hs_cal (hs_own 116) 101 = some (0, 18) := by decide +kernel
theorem c116_108 : hs_cal (hs_own 116) 108 = some (0, 20) := by decide +kernel
theorem c116_214 : hs_cal (hs_own 116) 214 = some (0, 91) := by decide +kernel
theorem c117_101 : hs_cal (hs_own 117) 101 = some (0, 18) := by decide +kernel
theorem c117_108 : hs_cal (hs_own 117) 108 = some (0, 20) := by decide +kernel
theorem c118_101 : hs_cal (hs_own 118) 101 = some (0, 18) := by decide +kernel
theorem c118_108 : hs_cal (hs_own 118) 108 = some (0, 20) := by decide +kernel
theorem c118_199 : hs_cal (hs_own 118) 199 = some (0, 89) := by decide +kernel
theorem c118_232 : hs_cal (hs_own 118) 232 = some (0, 95) := by decide +kernel
theorem c118_235 : hs_cal (hs_own 118) 235 = some (0, 96) := by decide +kernel
theorem c118_280 : hs_cal (hs_own 118) 280 = some (0, 62) := by decide +kernel
theorem c119_120 : hs_cal (hs_own 119) 120 = some (0, 28) := by decide +kernel
theorem c119_173 : hs_cal (hs_own 119) 173 = some (0, 68) := by decide +kernel
theorem c119_284 : hs_cal (hs_own 119) 284 = some (0, 58) := by decide +kernel
theorem c120_120 : hs_cal (hs_own 120) 120 = some (0, 28) := by decide +kernel
theorem c120_173 : hs_cal (hs_own 120) 173 = some (0, 68) := by decide +kernel
theorem c120_232 : hs_cal (hs_own 120) 232 = some (0, 95) := by decide +kernel
theorem c120_287 : hs_cal (hs_own 120) 287 = some (0, 121) := by decide +kernel
theorem c122_120 : hs_cal (hs_own 122) 120 = some (0, 28) := by decide +kernel
theorem c122_173 : hs_cal (hs_own 122) 173 = some (0, 68) := by decide +kernel
theorem c122_287 : hs_cal (hs_own 122) 287 = some (0, 121) := by decide +kernel
theorem c123_120 : hs_cal (hs_own 123) 120 = some (0, 28) := by decide +kernel
theorem c123_173 : hs_cal (hs_own 123) 173 = some (0, 68) := by decide +kernel
theorem c123_232 : hs_cal (hs_own 123) 232 = some (0, 95) := by decide +kernel
theorem c123_235 : hs_cal (hs_own 123) 235 = some (0, 96) := by decide +kernel
theorem c124_120 : hs_cal (hs_own 124) 120 = some (0, 28) := by decide +kernel
theorem c124_173 : hs_cal (hs_own 124) 173 = some (0, 68) := by decide +kernel
theorem c124_232 : hs_cal (hs_own 124) 232 = some (0, 95) := by decide +kernel
theorem c124_287 : hs_cal (hs_own 124) 287 = some (0, 121) := by decide +kernel
theorem c125_120 : hs_cal (hs_own 125) 120 = some (0, 28) := by decide +kernel
theorem c125_173 : hs_cal (hs_own 125) 173 = some (0, 68) := by decide +kernel
theorem c125_232 : hs_cal (hs_own 125) 232 = some (0, 95) := by decide +kernel
theorem c125_293 : hs_cal (hs_own 125) 293 = some (0, 126) := by decide +kernel
theorem c127_120 : hs_cal (hs_own 127) 120 = some (0, 28) := by decide +kernel
theorem c127_173 : hs_cal (hs_own 127) 173 = some (0, 68) := by decide +kernel
theorem c127_296 : hs_cal (hs_own 127) 296 = some (0, 128) := by decide +kernel
theorem c130_120 : hs_cal (hs_own 130) 120 = some (0, 28) := by decide +kernel
theorem c130_173 : hs_cal (hs_own 130) 173 = some (0, 68) := by decide +kernel
theorem c130_232 : hs_cal (hs_own 130) 232 = some (0, 95) := by decide +kernel
theorem c130_235 : hs_cal (hs_own 130) 235 = some (0, 96) := by decide +kernel
theorem c131_120 : hs_cal (hs_own 131) 120 = some (0, 28) := by decide +kernel
theorem c131_173 : hs_cal (hs_own 131) 173 = some (0, 68) := by decide +kernel
theorem c131_258 : hs_cal (hs_own 131) 258 = some (0, 107) := by decide +kernel
theorem c131_299 : hs_cal (hs_own 131) 299 = some (0, 132) := by decide +kernel
theorem c134_120 : hs_cal (hs_own 134) 120 = some (0, 28) := by decide +kernel
theorem c134_173 : hs_cal (hs_own 134) 173 = some (0, 68) := by decide +kernel
theorem c134_258 : hs_cal (hs_own 134) 258 = some (0, 107) := by decide +kernel
theorem c134_306 : hs_cal (hs_own 134) 306 = some (0, 103) := by decide +kernel
theorem c135_120 : hs_cal (hs_own 135) 120 = some (0, 28) := by decide +kernel
theorem c135_173 : hs_cal (hs_own 135) 173 = some (0, 68) := by decide +kernel
theorem c135_258 : hs_cal (hs_own 135) 258 = some (0, 107) := by decide +kernel
theorem c135_299 : hs_cal (hs_own 135) 299 = some (0, 132) := by decide +kernel
theorem c136_120 : hs_cal (hs_own 136) 120 = some (0, 28) := by decide +kernel
theorem c136_173 : hs_cal (hs_own 136) 173 = some (0, 68) := by decide +kernel
theorem c136_310 : hs_cal (hs_own 136) 310 = some (0, 137) := by decide +kernel
theorem c138_120 : hs_cal (hs_own 138) 120 = some (0, 28) := by decide +kernel
theorem c138_173 : hs_cal (hs_own 138) 173 = some (0, 68) := by decide +kernel
theorem c138_314 : hs_cal (hs_own 138) 314 = some (0, 84) := by decide +kernel
theorem c138_317 : hs_cal (hs_own 138) 317 = some (1, 139) := by decide +kernel
theorem c140_120 : hs_cal (hs_own 140) 120 = some (0, 28) := by decide +kernel
theorem c140_173 : hs_cal (hs_own 140) 173 = some (0, 68) := by decide +kernel
theorem c140_262 : hs_cal (hs_own 140) 262 = some (0, 109) := by decide +kernel
theorem c140_268 : hs_cal (hs_own 140) 268 = some (0, 112) := by decide +kernel
theorem c141_120 : hs_cal (hs_own 141) 120 = some (0, 28) := by decide +kernel
theorem c141_173 : hs_cal (hs_own 141) 173 = some (0, 68) := by decide +kernel
theorem c141_199 : hs_cal (hs_own 141) 199 = some (0, 89) := by decide +kernel
theorem c141_268 : hs_cal (hs_own 141) 268 = some (0, 112) := by decide +kernel
theorem c142_120 : hs_cal (hs_own 142) 120 = some (0, 28) := by decide +kernel
theorem c142_173 : hs_cal (hs_own 142) 173 = some (0, 68) := by decide +kernel
theorem c142_317 : hs_cal (hs_own 142) 317 = some (1, 139) := by decide +kernel
theorem c142_322 : hs_cal (hs_own 142) 322 = some (0, 143) := by decide +kernel
theorem c143_250 : hs_cal (hs_own 143) 250 = some (0, 86) := by decide +kernel
theorem c143_317 : hs_cal (hs_own 143) 317 = some (1, 139) := by decide +kernel
theorem c143_405 : hs_cal (hs_own 143) 405 = some (0, 144) := by decide +kernel
theorem c145_120 : hs_cal (hs_own 145) 120 = some (0, 28) := by decide +kernel
theorem c145_173 : hs_cal (hs_own 145) 173 = some (0, 68) := by decide +kernel
theorem c145_322 : hs_cal (hs_own 145) 322 = some (0, 143) := by decide +kernel
theorem c146_173 : hs_cal (hs_own 146) 173 = some (0, 68) := by decide +kernel
theorem c146_325 : hs_cal (hs_own 146) 325 = some (0, 147) := by decide +kernel
theorem c147_250 : hs_cal (hs_own 147) 250 = some (0, 86) := by decide +kernel
theorem c147_328 : hs_cal (hs_own 147) 328 = some (8, 0) := by decide +kernel
theorem c147_405 : hs_cal (hs_own 147) 405 = some (0, 144) := by decide +kernel
theorem c148_173 : hs_cal (hs_own 148) 173 = some (0, 68) := by decide +kernel
theorem c148_250 : hs_cal (hs_own 148) 250 = some (0, 86) := by decide +kernel
theorem c148_325 : hs_cal (hs_own 148) 325 = some (0, 147) := by decide +kernel
theorem c148_328 : hs_cal (hs_own 148) 328 = some (8, 0) := by decide +kernel
theorem c149_97 : hs_cal (hs_own 149) 97 = some (1, 17) := by decide +kernel
theorem c149_120 : hs_cal (hs_own 149) 120 = some (0, 28) := by decide +kernel
theorem c149_128 : hs_cal (hs_own 149) 128 = some (0, 23) := by decide +kernel
theorem c149_173 : hs_cal (hs_own 149) 173 = some (0, 68) := by decide +kernel
theorem c149_334 : hs_cal (hs_own 149) 334 = some (0, 150) := by decide +kernel
theorem c149_337 : hs_cal (hs_own 149) 337 = some (0, 151) := by decide +kernel
theorem c151_299 : hs_cal (hs_own 151) 299 = some (0, 132) := by decide +kernel
theorem c152_120 : hs_cal (hs_own 152) 120 = some (0, 28) := by decide +kernel
theorem c152_173 : hs_cal (hs_own 152) 173 = some (0, 68) := by decide +kernel
theorem c152_317 : hs_cal (hs_own 152) 317 = some (1, 139) := by decide +kernel
theorem c152_341 : hs_cal (hs_own 152) 341 = some (0, 153) := by decide +kernel
theorem c153_317 : hs_cal (hs_own 153) 317 = some (1, 139) := by decide +kernel
theorem c154_120 : hs_cal (hs_own 154) 120 = some (0, 28) := by decide +kernel
theorem c154_173 : hs_cal (hs_own 154) 173 = some (0, 68) := by decide +kernel
theorem c154_341 : hs_cal (hs_own 154) 341 = some (0, 153) := by decide +kernel
theorem d13_0 : decode (hs_code 13) 0 = .ok (.aload_n 0, 1) := by decide +kernel
theorem d13_1 : decode (hs_code 13) 1 = .ok (.getfield 90, 3) := by decide +kernel
theorem d13_4 : decode (hs_code 13) 4 = .ok (.ireturn, 1) := by decide +kernel
theorem d14_0 : decode (hs_code 14) 0 = .ok (.aload_n 0, 1) := by decide +kernel
theorem d14_1 : decode (hs_code 14) 1 = .ok (.getfield 94, 3) := by decide +kernel
theorem d14_4 : decode (hs_code 14) 4 = .ok (.lreturn, 1) := by decide +kernel
theorem d15_0 : decode (hs_code 15) 0 = .ok (.aload_n 0, 1) := by decide +kernel
theorem d15_1 : decode (hs_code 15) 1 = .ok (.getfield 85, 3) := by decide +kernel
theorem d15_4 : decode (hs_code 15) 4 = .ok (.lreturn, 1) := by decide +kernel
theorem d16_0 : decode (hs_code 16) 0 = .ok (.iload_n 1, 1) := by decide +kernel
theorem d16_1 : decode (hs_code 16) 1 = .ok (.invokestatic 97, 3) := by decide +kernel
theorem d16_4 : decode (hs_code 16) 4 = .ok (.ifCond .eq 12, 3) := by decide +kernel
theorem d16_7 : decode (hs_code 16) 7 = .ok (.iload_n 2, 1) := by decide +kernel
theorem d16_8 : decode (hs_code 16) 8 = .ok (.ifCond .lt 8, 3) := by decide +kernel
theorem d16_11 : decode (hs_code 16) 11 = .ok (.iload_n 2, 1) := by decide +kernel
theorem d16_12 : decode (hs_code 16) 12 = .ok (.iconst 3, 1) := by decide +kernel
theorem d16_13 : decode (hs_code 16) 13 = .ok (.if_icmp .le 9, 3) := by decide +kernel
theorem d16_16 : decode (hs_code 16) 16 = .ok (.aload_n 0, 1) := by decide +kernel
theorem d16_17 : decode (hs_code 16) 17 = .ok (.iconst 1, 1) := by decide +kernel
theorem d16_18 : decode (hs_code 16) 18 = .ok (.invokevirtual 101, 3) := by decide +kernel
theorem d16_21 : decode (hs_code 16) 21 = .ok (.ireturn, 1) := by decide +kernel
theorem d16_22 : decode (hs_code 16) 22 = .ok (.iload_n 3, 1) := by decide +kernel
theorem d16_23 : decode (hs_code 16) 23 = .ok (.bipush 60, 2) := by decide +kernel
theorem d16_25 : decode (hs_code 16) 25 = .ok (.if_icmp .le 9, 3) := by decide +kernel
theorem d16_28 : decode (hs_code 16) 28 = .ok (.aload_n 0, 1) := by decide +kernel
theorem d16_29 : decode (hs_code 16) 29 = .ok (.iconst 5, 1) := by decide +kernel
theorem d16_30 : decode (hs_code 16) 30 = .ok (.invokevirtual 101, 3) := by decide +kernel
theorem d16_33 : decode (hs_code 16) 33 = .ok (.ireturn, 1) := by decide +kernel
theorem d16_34 : decode (hs_code 16) 34 = .ok (.iload_n 3, 1) := by decide +kernel
theorem d16_35 : decode (hs_code 16) 35 = .ok (.ifCond .ge 10, 3) := by decide +kernel
theorem d16_38 : decode (hs_code 16) 38 = .ok (.aload_n 0, 1) := by decide +kernel
theorem d16_39 : decode (hs_code 16) 39 = .ok (.bipush 6, 2) := by decide +kernel
theorem d16_41 : decode (hs_code 16) 41 = .ok (.invokevirtual 101, 3) := by decide +kernel
theorem d16_44 : decode (hs_code 16) 44 = .ok (.ireturn, 1) := by decide +kernel
theorem d16_45 : decode (hs_code 16) 45 = .ok (.aload_n 0, 1) := by decide +kernel
theorem d16_46 : decode (hs_code 16) 46 = .ok (.getfield 11, 3) := by decide +kernel
theorem d16_49 : decode (hs_code 16) 49 = .ok (.iload_n 1, 1) := by decide +kernel
theorem d16_50 : decode (hs_code 16) 50 = .ok (.aaload, 1) := by decide +kernel
theorem d16_51 : decode (hs_code 16) 51 = .ok (.iload_n 2, 1) := by decide +kernel
theorem d16_52 : decode (hs_code 16) 52 = .ok (.iload_n 3, 1) := by decide +kernel
theorem d16_53 : decode (hs_code 16) 53 = .ok (.invokevirtual 104, 3) := by decide +kernel
theorem d16_56 : decode (hs_code 16) 56 = .ok (.aload_n 0, 1) := by decide +kernel
theorem d16_57 : decode (hs_code 16) 57 = .ok (.invokevirtual 108, 3) := by decide +kernel
theorem d16_60 : decode (hs_code 16) 60 = .ok (.ireturn, 1) := by decide +kernel
theorem d17_0 : decode (hs_code 17) 0 = .ok (.iload_n 0, 1) := by decide +kernel
theorem d17_1 : decode (hs_code 17) 1 = .ok (.ifCond .lt 12, 3) := by decide +kernel
theorem d17_4 : decode (hs_code 17) 4 = .ok (.iload_n 0, 1) := by decide +kernel
theorem d17_5 : decode (hs_code 17) 5 = .ok (.iconst 4, 1) := by decide +kernel
theorem d17_6 : decode (hs_code 17) 6 = .ok (.if_icmp .ge 7, 3) := by decide +kernel
theorem d17_9 : decode (hs_code 17) 9 = .ok (.iconst 1, 1) := by decide +kernel
theorem d17_10 : decode (hs_code 17) 10 = .ok (.goto 4, 3) := by decide +kernel
theorem d17_13 : decode (hs_code 17) 13 = .ok (.iconst 0, 1) := by decide +kernel
theorem d17_14 : decode (hs_code 17) 14 = .ok (.ireturn, 1) := by decide +kernel
theorem d18_0 : decode (hs_code 18) 0 = .ok (.aload_n 0, 1) := by decide +kernel
theorem d18_1 : decode (hs_code 18) 1 = .ok (.iload_n 1, 1) := by decide +kernel
theorem d18_2 : decode (hs_code 18) 2 = .ok (.putfield 90, 3) := by decide +kernel
theorem d18_5 : decode (hs_code 18) 5 = .ok (.iconst 0, 1) := by decide +kernel
theorem d18_6 : decode (hs_code 18) 6 = .ok (.ireturn, 1) := by decide +kernel
theorem d20_0 : decode (hs_code 20) 0 = .ok (.aload_n 0, 1) := by decide +kernel
theorem d20_1 : decode (hs_code 20) 1 = .ok (.iconst 0, 1) := by decide +kernel
theorem d20_2 : decode (hs_code 20) 2 = .ok (.putfield 90, 3) := by decide +kernel
theorem d20_5 : decode (hs_code 20) 5 = .ok (.iconst 1, 1) := by decide +kernel
theorem d20_6 : decode (hs_code 20) 6 = .ok (.ireturn, 1) := by decide +kernel
theorem d21_0 : decode (hs_code 21) 0 = .ok (.aload_n 0, 1) := by decide +kernel
theorem d21_1 : decode (hs_code 21) 1 = .ok (.iload_n 1, 1) := by decide +kernel
theorem d21_2 : decode (hs_code 21) 2 = .ok (.iload_n 2, 1) := by decide +kernel
theorem d21_3 : decode (hs_code 21) 3 = .ok (.invokevirtual 112, 3) := by decide +kernel
theorem d21_6 : decode (hs_code 21) 6 = .ok (.istore 5, 2) := by decide +kernel
theorem d21_8 : decode (hs_code 21) 8 = .ok (.iload 5, 2) := by decide +kernel
theorem d21_10 : decode (hs_code 21) 10 = .ok (.ifCond .eq 10, 3) := by decide +kernel
theorem d21_13 : decode (hs_code 21) 13 = .ok (.aload_n 0, 1) := by decide +kernel
theorem d21_14 : decode (hs_code 21) 14 = .ok (.iload 5, 2) := by decide +kernel
theorem d21_16 : decode (hs_code 21) 16 = .ok (.invokevirtual 101, 3) := by decide +kernel
theorem d21_19 : decode (hs_code 21) 19 = .ok (.ireturn, 1) := by decide +kernel
theorem d21_20 : decode (hs_code 21) 20 = .ok (.aload_n 0, 1) := by decide +kernel
theorem d21_21 : decode (hs_code 21) 21 = .ok (.getfield 11, 3) := by decide +kernel
theorem d21_24 : decode (hs_code 21) 24 = .ok (.iload_n 1, 1) := by decide +kernel
theorem d21_25 : decode (hs_code 21) 25 = .ok (.aaload, 1) := by decide +kernel
theorem d21_26 : decode (hs_code 21) 26 = .ok (.iload_n 2, 1) := by decide +kernel
theorem d21_27 : decode (hs_code 21) 27 = .ok (.lload_n 3, 1) := by decide +kernel
theorem d21_28 : decode (hs_code 21) 28 = .ok (.invokevirtual 116, 3) := by decide +kernel
theorem d21_31 : decode (hs_code 21) 31 = .ok (.aload_n 0, 1) := by decide +kernel
theorem d21_32 : decode (hs_code 21) 32 = .ok (.invokevirtual 108, 3) := by decide +kernel
theorem d21_35 : decode (hs_code 21) 35 = .ok (.ireturn, 1) := by decide +kernel
theorem d22_0 : decode (hs_code 22) 0 = .ok (.iload_n 1, 1) := by decide +kernel
theorem d22_1 : decode (hs_code 22) 1 = .ok (.invokestatic 97, 3) := by decide +kernel
theorem d22_4 : decode (hs_code 22) 4 = .ok (.ifCond .ne 5, 3) := by decide +kernel
theorem d22_7 : decode (hs_code 22) 7 = .ok (.iconst 1, 1) := by decide +kernel
theorem d22_8 : decode (hs_code 22) 8 = .ok (.ireturn, 1) := by decide +kernel
theorem d22_9 : decode (hs_code 22) 9 = .ok (.aload_n 0, 1) := by decide +kernel
theorem d22_10 : decode (hs_code 22) 10 = .ok (.getfield 11, 3) := by decide +kernel
theorem d22_13 : decode (hs_code 22) 13 = .ok (.iload_n 1, 1) := by decide +kernel
theorem d22_14 : decode (hs_code 22) 14 = .ok (.aaload, 1) := by decide +kernel
theorem d22_15 : decode (hs_code 22) 15 = .ok (.invokevirtual 128, 3) := by decide +kernel
theorem d22_18 : decode (hs_code 22) 18 = .ok (.ifCond .eq 5, 3) := by decide +kernel
theorem d22_21 : decode (hs_code 22) 21 = .ok (.iconst 3, 1) := by decide +kernel
theorem d22_22 : decode (hs_code 22) 22 = .ok (.ireturn, 1) := by decide +kernel
theorem d22_23 : decode (hs_code 22) 23 = .ok (.aload_n 0, 1) := by decide +kernel
theorem d22_24 : decode (hs_code 22) 24 = .ok (.getfield 11, 3) := by decide +kernel
theorem d22_27 : decode (hs_code 22) 27 = .ok (.iload_n 1, 1) := by decide +kernel
theorem d22_28 : decode (hs_code 22) 28 = .ok (.aaload, 1) := by decide +kernel
theorem d22_29 : decode (hs_code 22) 29 = .ok (.iload_n 2, 1) := by decide +kernel
theorem d22_30 : decode (hs_code 22) 30 = .ok (.invokevirtual 402, 3) := by decide +kernel
theorem d22_33 : decode (hs_code 22) 33 = .ok (.ifCond .eq 7, 3) := by decide +kernel
theorem d22_36 : decode (hs_code 22) 36 = .ok (.iconst 0, 1) := by decide +kernel
theorem d22_37 : decode (hs_code 22) 37 = .ok (.goto 4, 3) := by decide +kernel
theorem d22_40 : decode (hs_code 22) 40 = .ok (.iconst 4, 1) := by decide +kernel
theorem d22_41 : decode (hs_code 22) 41 = .ok (.ireturn, 1) := by decide +kernel
theorem d27_0 : decode (hs_code 27) 0 = .ok (.aload_n 0, 1) := by decide +kernel
theorem d27_1 : decode (hs_code 27) 1 = .ok (.iload_n 1, 1) := by decide +kernel
theorem d27_2 : decode (hs_code 27) 2 = .ok (.iload_n 2, 1) := by decide +kernel
theorem d27_3 : decode (hs_code 27) 3 = .ok (.invokevirtual 112, 3) := by decide +kernel
theorem d27_6 : decode (hs_code 27) 6 = .ok (.istore_n 3, 1) := by decide +kernel
theorem d27_7 : decode (hs_code 27) 7 = .ok (.iload_n 3, 1) := by decide +kernel
theorem d27_8 : decode (hs_code 27) 8 = .ok (.ifCond .eq 10, 3) := by decide +kernel
theorem d27_11 : decode (hs_code 27) 11 = .ok (.aload_n 0, 1) := by decide +kernel
theorem d27_12 : decode (hs_code 27) 12 = .ok (.iload_n 3, 1) := by decide +kernel
theorem d27_13 : decode (hs_code 27) 13 = .ok (.invokevirtual 120, 3) := by decide +kernel
theorem d27_16 : decode (hs_code 27) 16 = .ok (.i2l, 1) := by decide +kernel
theorem d27_17 : decode (hs_code 27) 17 = .ok (.lreturn, 1) := by decide +kernel
theorem d27_18 : decode (hs_code 27) 18 = .ok (.aload_n 0, 1) := by decide +kernel
theorem d27_19 : decode (hs_code 27) 19 = .ok (.iconst 0, 1) := by decide +kernel
theorem d27_20 : decode (hs_code 27) 20 = .ok (.putfield 90, 3) := by decide +kernel
theorem d27_23 : decode (hs_code 27) 23 = .ok (.aload_n 0, 1) := by decide +kernel
theorem d27_24 : decode (hs_code 27) 24 = .ok (.getfield 11, 3) := by decide +kernel
theorem d27_27 : decode (hs_code 27) 27 = .ok (.iload_n 1, 1) := by decide +kernel
theorem d27_28 : decode (hs_code 27) 28 = .ok (.aaload, 1) := by decide +kernel
theorem d27_29 : decode (hs_code 27) 29 = .ok (.getfield 124, 3) := by decide +kernel
theorem d27_32 : decode (hs_code 27) 32 = .ok (.iload_n 2, 1) := by decide +kernel
theorem d27_33 : decode (hs_code 27) 33 = .ok (.laload, 1) := by decide +kernel
theorem d27_34 : decode (hs_code 27) 34 = .ok (.lreturn, 1) := by decide +kernel
theorem d28_0 : decode (hs_code 28) 0 = .ok (.aload_n 0, 1) := by decide +kernel
theorem d28_1 : decode (hs_code 28) 1 = .ok (.iload_n 1, 1) := by decide +kernel
theorem d28_2 : decode (hs_code 28) 2 = .ok (.putfield 90, 3) := by decide +kernel
theorem d28_5 : decode (hs_code 28) 5 = .ok (.iconst (-1), 1) := by decide +kernel
theorem d28_6 : decode (hs_code 28) 6 = .ok (.ireturn, 1) := by decide +kernel
theorem d29_0 : decode (hs_code 29) 0 = .ok (.iload_n 1, 1) := by decide +kernel
theorem d29_1 : decode (hs_code 29) 1 = .ok (.invokestatic 97, 3) := by decide +kernel
theorem d29_4 : decode (hs_code 29) 4 = .ok (.ifCond .eq 10, 3) := by decide +kernel
theorem d29_7 : decode (hs_code 29) 7 = .ok (.iload_n 3, 1) := by decide +kernel
theorem d29_8 : decode (hs_code 29) 8 = .ok (.invokestatic 97, 3) := by decide +kernel
theorem d29_11 : decode (hs_code 29) 11 = .ok (.ifCond .ne 9, 3) := by decide +kernel
theorem d29_14 : decode (hs_code 29) 14 = .ok (.aload_n 0, 1) := by decide +kernel
theorem d29_15 : decode (hs_code 29) 15 = .ok (.iconst 1, 1) := by decide +kernel
theorem d29_16 : decode (hs_code 29) 16 = .ok (.invokevirtual 101, 3) := by decide +kernel
theorem d29_19 : decode (hs_code 29) 19 = .ok (.ireturn, 1) := by decide +kernel
theorem d29_20 : decode (hs_code 29) 20 = .ok (.aload_n 0, 1) := by decide +kernel
theorem d29_21 : decode (hs_code 29) 21 = .ok (.getfield 11, 3) := by decide +kernel
theorem d29_24 : decode (hs_code 29) 24 = .ok (.iload_n 1, 1) := by decide +kernel
theorem d29_25 : decode (hs_code 29) 25 = .ok (.aaload, 1) := by decide +kernel
theorem d29_26 : decode (hs_code 29) 26 = .ok (.astore 6, 2) := by decide +kernel
theorem d29_28 : decode (hs_code 29) 28 = .ok (.aload_n 0, 1) := by decide +kernel
theorem d29_29 : decode (hs_code 29) 29 = .ok (.getfield 11, 3) := by decide +kernel
theorem d29_32 : decode (hs_code 29) 32 = .ok (.iload_n 3, 1) := by decide +kernel
theorem d29_33 : decode (hs_code 29) 33 = .ok (.aaload, 1) := by decide +kernel
theorem d29_34 : decode (hs_code 29) 34 = .ok (.astore 7, 2) := by decide +kernel
theorem d29_36 : decode (hs_code 29) 36 = .ok (.aload 6, 2) := by decide +kernel
theorem d29_38 : decode (hs_code 29) 38 = .ok (.invokevirtual 128, 3) := by decide +kernel
theorem d29_41 : decode (hs_code 29) 41 = .ok (.ifCond .ne 11, 3) := by decide +kernel
theorem d29_44 : decode (hs_code 29) 44 = .ok (.aload 7, 2) := by decide +kernel
theorem d29_46 : decode (hs_code 29) 46 = .ok (.invokevirtual 128, 3) := by decide +kernel
theorem d29_49 : decode (hs_code 29) 49 = .ok (.ifCond .eq 9, 3) := by decide +kernel
theorem d29_52 : decode (hs_code 29) 52 = .ok (.aload_n 0, 1) := by decide +kernel
theorem d29_53 : decode (hs_code 29) 53 = .ok (.iconst 3, 1) := by decide +kernel
theorem d29_54 : decode (hs_code 29) 54 = .ok (.invokevirtual 101, 3) := by decide +kernel
theorem d29_57 : decode (hs_code 29) 57 = .ok (.ireturn, 1) := by decide +kernel
theorem d29_58 : decode (hs_code 29) 58 = .ok (.aload 6, 2) := by decide +kernel
theorem d29_60 : decode (hs_code 29) 60 = .ok (.getfield 131, 3) := by decide +kernel
theorem d29_63 : decode (hs_code 29) 63 = .ok (.aload 7, 2) := by decide +kernel
theorem d29_65 : decode (hs_code 29) 65 = .ok (.getfield 131, 3) := by decide +kernel
theorem d29_68 : decode (hs_code 29) 68 = .ok (.if_icmp .eq 10, 3) := by decide +kernel
theorem d29_71 : decode (hs_code 29) 71 = .ok (.aload_n 0, 1) := by decide +kernel
theorem d29_72 : decode (hs_code 29) 72 = .ok (.bipush 11, 2) := by decide +kernel
theorem d29_74 : decode (hs_code 29) 74 = .ok (.invokevirtual 101, 3) := by decide +kernel
theorem d29_77 : decode (hs_code 29) 77 = .ok (.ireturn, 1) := by decide +kernel
theorem d29_78 : decode (hs_code 29) 78 = .ok (.iload 5, 2) := by decide +kernel
theorem d29_80 : decode (hs_code 29) 80 = .ok (.ifCond .ge 10, 3) := by decide +kernel
theorem d29_83 : decode (hs_code 29) 83 = .ok (.aload_n 0, 1) := by decide +kernel
theorem d29_84 : decode (hs_code 29) 84 = .ok (.bipush 6, 2) := by decide +kernel
theorem d29_86 : decode (hs_code 29) 86 = .ok (.invokevirtual 101, 3) := by decide +kernel
theorem d29_89 : decode (hs_code 29) 89 = .ok (.ireturn, 1) := by decide +kernel
theorem d29_90 : decode (hs_code 29) 90 = .ok (.aload 6, 2) := by decide +kernel
theorem d29_92 : decode (hs_code 29) 92 = .ok (.iload_n 2, 1) := by decide +kernel
theorem d29_93 : decode (hs_code 29) 93 = .ok (.iload 5, 2) := by decide +kernel
theorem d29_95 : decode (hs_code 29) 95 = .ok (.invokevirtual 134, 3) := by decide +kernel
theorem d29_98 : decode (hs_code 29) 98 = .ok (.ifCond .eq 15, 3) := by decide +kernel
theorem d29_101 : decode (hs_code 29) 101 = .ok (.aload 7, 2) := by decide +kernel
theorem d29_103 : decode (hs_code 29) 103 = .ok (.iload 4, 2) := by decide +kernel
theorem d29_105 : decode (hs_code 29) 105 = .ok (.iload 5, 2) := by decide +kernel
theorem d29_107 : decode (hs_code 29) 107 = .ok (.invokevirtual 134, 3) := by decide +kernel
theorem d29_110 : decode (hs_code 29) 110 = .ok (.ifCond .ne 9, 3) := by decide +kernel
theorem d29_113 : decode (hs_code 29) 113 = .ok (.aload_n 0, 1) := by decide +kernel
theorem d29_114 : decode (hs_code 29) 114 = .ok (.iconst 4, 1) := by decide +kernel
theorem d29_115 : decode (hs_code 29) 115 = .ok (.invokevirtual 101, 3) := by decide +kernel
theorem d29_118 : decode (hs_code 29) 118 = .ok (.ireturn, 1) := by decide +kernel
theorem d29_119 : decode (hs_code 29) 119 = .ok (.aload 6, 2) := by decide +kernel
theorem d29_121 : decode (hs_code 29) 121 = .ok (.getfield 124, 3) := by decide +kernel
theorem d29_124 : decode (hs_code 29) 124 = .ok (.iload_n 2, 1) := by decide +kernel
theorem d29_125 : decode (hs_code 29) 125 = .ok (.aload 7, 2) := by decide +kernel
theorem d29_127 : decode (hs_code 29) 127 = .ok (.getfield 124, 3) := by decide +kernel
theorem d29_130 : decode (hs_code 29) 130 = .ok (.iload 4, 2) := by decide +kernel
theorem d29_132 : decode (hs_code 29) 132 = .ok (.iload 5, 2) := by decide +kernel
theorem d29_134 : decode (hs_code 29) 134 = .ok (.invokestatic 138, 3) := by decide +kernel
theorem d29_137 : decode (hs_code 29) 137 = .ok (.aload_n 0, 1) := by decide +kernel
theorem d29_138 : decode (hs_code 29) 138 = .ok (.invokevirtual 108, 3) := by decide +kernel
theorem d29_141 : decode (hs_code 29) 141 = .ok (.ireturn, 1) := by decide +kernel
theorem d31_0 : decode (hs_code 31) 0 = .ok (.aload_n 0, 1) := by decide +kernel
theorem d31_1 : decode (hs_code 31) 1 = .ok (.getfield 18, 3) := by decide +kernel
theorem d31_4 : decode (hs_code 31) 4 = .ok (.bipush 20, 2) := by decide +kernel
theorem d31_6 : decode (hs_code 31) 6 = .ok (.invokevirtual 144, 3) := by decide +kernel
theorem d31_9 : decode (hs_code 31) 9 = .ok (.ifCond .ne 5, 3) := by decide +kernel
theorem d31_12 : decode (hs_code 31) 12 = .ok (.iconst (-1), 1) := by decide +kernel
theorem d31_13 : decode (hs_code 31) 13 = .ok (.ireturn, 1) := by decide +kernel
theorem d31_14 : decode (hs_code 31) 14 = .ok (.aload_n 0, 1) := by decide +kernel
theorem d31_15 : decode (hs_code 31) 15 = .ok (.getfield 18, 3) := by decide +kernel
theorem d31_18 : decode (hs_code 31) 18 = .ok (.iload_n 1, 1) := by decide +kernel
theorem d31_19 : decode (hs_code 31) 19 = .ok (.invokevirtual 147, 3) := by decide +kernel
theorem d31_22 : decode (hs_code 31) 22 = .ok (.aload_n 0, 1) := by decide +kernel
theorem d31_23 : decode (hs_code 31) 23 = .ok (.getfield 18, 3) := by decide +kernel
theorem d31_26 : decode (hs_code 31) 26 = .ok (.iload_n 2, 1) := by decide +kernel
theorem d31_27 : decode (hs_code 31) 27 = .ok (.invokevirtual 147, 3) := by decide +kernel
theorem d31_30 : decode (hs_code 31) 30 = .ok (.aload_n 0, 1) := by decide +kernel
theorem d31_31 : decode (hs_code 31) 31 = .ok (.getfield 18, 3) := by decide +kernel
theorem d31_34 : decode (hs_code 31) 34 = .ok (.iload_n 3, 1) := by decide +kernel
theorem d31_35 : decode (hs_code 31) 35 = .ok (.invokevirtual 147, 3) := by decide +kernel
theorem d31_38 : decode (hs_code 31) 38 = .ok (.aload_n 0, 1) := by decide +kernel
theorem d31_39 : decode (hs_code 31) 39 = .ok (.getfield 18, 3) := by decide +kernel
theorem d31_42 : decode (hs_code 31) 42 = .ok (.iload 4, 2) := by decide +kernel
theorem d31_44 : decode (hs_code 31) 44 = .ok (.invokevirtual 147, 3) := by decide +kernel
theorem d31_47 : decode (hs_code 31) 47 = .ok (.aload_n 0, 1) := by decide +kernel
theorem d31_48 : decode (hs_code 31) 48 = .ok (.getfield 18, 3) := by decide +kernel
theorem d31_51 : decode (hs_code 31) 51 = .ok (.iload 5, 2) := by decide +kernel
theorem d31_53 : decode (hs_code 31) 53 = .ok (.invokevirtual 147, 3) := by decide +kernel
theorem d31_56 : decode (hs_code 31) 56 = .ok (.aload_n 0, 1) := by decide +kernel
theorem d31_57 : decode (hs_code 31) 57 = .ok (.getfield 18, 3) := by decide +kernel
theorem d31_60 : decode (hs_code 31) 60 = .ok (.getfield 151, 3) := by decide +kernel
theorem d31_63 : decode (hs_code 31) 63 = .ok (.ireturn, 1) := by decide +kernel
theorem d34_0 : decode (hs_code 34) 0 = .ok (.iload_n 1, 1) := by decide +kernel
theorem d34_1 : decode (hs_code 34) 1 = .ok (.ifCond .lt 14, 3) := by decide +kernel
theorem d34_4 : decode (hs_code 34) 4 = .ok (.iload_n 1, 1) := by decide +kernel
theorem d34_5 : decode (hs_code 34) 5 = .ok (.aload_n 0, 1) := by decide +kernel
theorem d34_6 : decode (hs_code 34) 6 = .ok (.getfield 18, 3) := by decide +kernel
theorem d34_9 : decode (hs_code 34) 9 = .ok (.getfield 151, 3) := by decide +kernel
theorem d34_12 : decode (hs_code 34) 12 = .ok (.if_icmp .le 9, 3) := by decide +kernel
theorem d34_15 : decode (hs_code 34) 15 = .ok (.aload_n 0, 1) := by decide +kernel
theorem d34_16 : decode (hs_code 34) 16 = .ok (.iconst 5, 1) := by decide +kernel
theorem d34_17 : decode (hs_code 34) 17 = .ok (.invokevirtual 120, 3) := by decide +kernel
theorem d34_20 : decode (hs_code 34) 20 = .ok (.ireturn, 1) := by decide +kernel
theorem d34_21 : decode (hs_code 34) 21 = .ok (.aload_n 0, 1) := by decide +kernel
theorem d34_22 : decode (hs_code 34) 22 = .ok (.getfield 18, 3) := by decide +kernel
theorem d34_25 : decode (hs_code 34) 25 = .ok (.iload_n 1, 1) := by decide +kernel
theorem d34_26 : decode (hs_code 34) 26 = .ok (.invokevirtual 154, 3) := by decide +kernel
theorem d34_29 : decode (hs_code 34) 29 = .ok (.aload_n 0, 1) := by decide +kernel
theorem d34_30 : decode (hs_code 34) 30 = .ok (.getfield 25, 3) := by decide +kernel
theorem d34_33 : decode (hs_code 34) 33 = .ok (.aload_n 0, 1) := by decide +kernel
theorem d34_34 : decode (hs_code 34) 34 = .ok (.getfield 18, 3) := by decide +kernel
theorem d34_37 : decode (hs_code 34) 37 = .ok (.aload_n 0, 1) := by decide +kernel
theorem d34_38 : decode (hs_code 34) 38 = .ok (.getfield 64, 3) := by decide +kernel
theorem d34_41 : decode (hs_code 34) 41 = .ok (.invokevirtual 157, 3) := by decide +kernel
theorem d34_44 : decode (hs_code 34) 44 = .ok (.ifCond .ne 10, 3) := by decide +kernel
theorem d34_47 : decode (hs_code 34) 47 = .ok (.aload_n 0, 1) := by decide +kernel
theorem d34_48 : decode (hs_code 34) 48 = .ok (.bipush 10, 2) := by decide +kernel
theorem d34_50 : decode (hs_code 34) 50 = .ok (.invokevirtual 120, 3) := by decide +kernel
theorem d34_53 : decode (hs_code 34) 53 = .ok (.ireturn, 1) := by decide +kernel
theorem d34_54 : decode (hs_code 34) 54 = .ok (.aload_n 0, 1) := by decide +kernel
theorem d34_55 : decode (hs_code 34) 55 = .ok (.getfield 60, 3) := by decide +kernel
theorem d34_58 : decode (hs_code 34) 58 = .ok (.astore_n 2, 1) := by decide +kernel
theorem d34_59 : decode (hs_code 34) 59 = .ok (.aload_n 0, 1) := by decide +kernel
theorem d34_60 : decode (hs_code 34) 60 = .ok (.aload_n 0, 1) := by decide +kernel
theorem d34_61 : decode (hs_code 34) 61 = .ok (.getfield 64, 3) := by decide +kernel
theorem d34_64 : decode (hs_code 34) 64 = .ok (.putfield 60, 3) := by decide +kernel
theorem d34_67 : decode (hs_code 34) 67 = .ok (.aload_n 0, 1) := by decide +kernel
theorem d34_68 : decode (hs_code 34) 68 = .ok (.aload_n 2, 1) := by decide +kernel
theorem d34_69 : decode (hs_code 34) 69 = .ok (.putfield 64, 3) := by decide +kernel
theorem d34_72 : decode (hs_code 34) 72 = .ok (.aload_n 0, 1) := by decide +kernel
theorem d34_73 : decode (hs_code 34) 73 = .ok (.getfield 68, 3) := by decide +kernel
theorem d34_76 : decode (hs_code 34) 76 = .ok (.invokevirtual 161, 3) := by decide +kernel
theorem d34_79 : decode (hs_code 34) 79 = .ok (.aload_n 0, 1) := by decide +kernel
theorem d34_80 : decode (hs_code 34) 80 = .ok (.aload_n 0, 1) := by decide +kernel
theorem d34_81 : decode (hs_code 34) 81 = .ok (.getfield 60, 3) := by decide +kernel
theorem d34_84 : decode (hs_code 34) 84 = .ok (.getfield 164, 3) := by decide +kernel
theorem d34_87 : decode (hs_code 34) 87 = .ok (.getfield 168, 3) := by decide +kernel
theorem d34_90 : decode (hs_code 34) 90 = .ok (.invokevirtual 173, 3) := by decide +kernel
theorem d34_93 : decode (hs_code 34) 93 = .ok (.ireturn, 1) := by decide +kernel
theorem d68_0 : decode (hs_code 68) 0 = .ok (.aload_n 0, 1) := by decide +kernel
theorem d68_1 : decode (hs_code 68) 1 = .ok (.iconst 0, 1) := by decide +kernel
theorem d68_2 : decode (hs_code 68) 2 = .ok (.putfield 90, 3) := by decide +kernel
theorem d68_5 : decode (hs_code 68) 5 = .ok (.iload_n 1, 1) := by decide +kernel
theorem d68_6 : decode (hs_code 68) 6 = .ok (.ireturn, 1) := by decide +kernel
theorem d69_0 : decode (hs_code 69) 0 = .ok (.iload_n 1, 1) := by decide +kernel
theorem d69_1 : decode (hs_code 69) 1 = .ok (.ifCond .lt 21, 3) := by decide +kernel
theorem d69_4 : decode (hs_code 69) 4 = .ok (.iload_n 1, 1) := by decide +kernel
theorem d69_5 : decode (hs_code 69) 5 = .ok (.aload_n 0, 1) := by decide +kernel
theorem d69_6 : decode (hs_code 69) 6 = .ok (.getfield 18, 3) := by decide +kernel
theorem d69_9 : decode (hs_code 69) 9 = .ok (.getfield 151, 3) := by decide +kernel
theorem d69_12 : decode (hs_code 69) 12 = .ok (.if_icmp .gt 10, 3) := by decide +kernel
theorem d69_15 : decode (hs_code 69) 15 = .ok (.iload_n 1, 1) := by decide +kernel
theorem d69_16 : decode (hs_code 69) 16 = .ok (.sipush 300, 3) := by decide +kernel
theorem d69_19 : decode (hs_code 69) 19 = .ok (.if_icmp .le 9, 3) := by decide +kernel
theorem d69_22 : decode (hs_code 69) 22 = .ok (.aload_n 0, 1) := by decide +kernel
theorem d69_23 : decode (hs_code 69) 23 = .ok (.iconst 5, 1) := by decide +kernel
theorem d69_24 : decode (hs_code 69) 24 = .ok (.invokevirtual 120, 3) := by decide +kernel
theorem d69_27 : decode (hs_code 69) 27 = .ok (.ireturn, 1) := by decide +kernel
theorem d69_28 : decode (hs_code 69) 28 = .ok (.aload_n 0, 1) := by decide +kernel
theorem d69_29 : decode (hs_code 69) 29 = .ok (.getfield 18, 3) := by decide +kernel
theorem d69_32 : decode (hs_code 69) 32 = .ok (.iload_n 1, 1) := by decide +kernel
theorem d69_33 : decode (hs_code 69) 33 = .ok (.invokevirtual 154, 3) := by decide +kernel
theorem d69_36 : decode (hs_code 69) 36 = .ok (.aload_n 0, 1) := by decide +kernel
theorem d69_37 : decode (hs_code 69) 37 = .ok (.getfield 32, 3) := by decide +kernel
theorem d69_40 : decode (hs_code 69) 40 = .ok (.aload_n 0, 1) := by decide +kernel
theorem d69_41 : decode (hs_code 69) 41 = .ok (.getfield 18, 3) := by decide +kernel
theorem d69_44 : decode (hs_code 69) 44 = .ok (.aload_n 0, 1) := by decide +kernel
theorem d69_45 : decode (hs_code 69) 45 = .ok (.getfield 72, 3) := by decide +kernel
theorem d69_48 : decode (hs_code 69) 48 = .ok (.aload_n 0, 1) := by decide +kernel
theorem d69_49 : decode (hs_code 69) 49 = .ok (.getfield 60, 3) := by decide +kernel
theorem d69_52 : decode (hs_code 69) 52 = .ok (.getfield 176, 3) := by decide +kernel
theorem d69_55 : decode (hs_code 69) 55 = .ok (.invokevirtual 180, 3) := by decide +kernel
theorem d69_58 : decode (hs_code 69) 58 = .ok (.ifCond .ne 10, 3) := by decide +kernel
theorem d69_61 : decode (hs_code 69) 61 = .ok (.aload_n 0, 1) := by decide +kernel
theorem d69_62 : decode (hs_code 69) 62 = .ok (.bipush 10, 2) := by decide +kernel
theorem d69_64 : decode (hs_code 69) 64 = .ok (.invokevirtual 120, 3) := by decide +kernel
theorem d69_67 : decode (hs_code 69) 67 = .ok (.ireturn, 1) := by decide +kernel
theorem d69_68 : decode (hs_code 69) 68 = .ok (.aload_n 0, 1) := by decide +kernel
theorem d69_69 : decode (hs_code 69) 69 = .ok (.getfield 68, 3) := by decide +kernel
theorem d69_72 : decode (hs_code 69) 72 = .ok (.astore_n 2, 1) := by decide +kernel
theorem d69_73 : decode (hs_code 69) 73 = .ok (.aload_n 0, 1) := by decide +kernel
theorem d69_74 : decode (hs_code 69) 74 = .ok (.aload_n 0, 1) := by decide +kernel
theorem d69_75 : decode (hs_code 69) 75 = .ok (.getfield 72, 3) := by decide +kernel
theorem d69_78 : decode (hs_code 69) 78 = .ok (.putfield 68, 3) := by decide +kernel
theorem d69_81 : decode (hs_code 69) 81 = .ok (.aload_n 0, 1) := by decide +kernel
theorem d69_82 : decode (hs_code 69) 82 = .ok (.aload_n 2, 1) := by decide +kernel
theorem d69_83 : decode (hs_code 69) 83 = .ok (.putfield 72, 3) := by decide +kernel
theorem d69_86 : decode (hs_code 69) 86 = .ok (.aload_n 0, 1) := by decide +kernel
theorem d69_87 : decode (hs_code 69) 87 = .ok (.aload_n 0, 1) := by decide +kernel
theorem d69_88 : decode (hs_code 69) 88 = .ok (.getfield 68, 3) := by decide +kernel
theorem d69_91 : decode (hs_code 69) 91 = .ok (.getfield 184, 3) := by decide +kernel
theorem d69_94 : decode (hs_code 69) 94 = .ok (.invokevirtual 173, 3) := by decide +kernel
theorem d69_97 : decode (hs_code 69) 97 = .ok (.ireturn, 1) := by decide +kernel
theorem d79_0 : decode (hs_code 79) 0 = .ok (.iload_n 1, 1) := by decide +kernel
theorem d79_1 : decode (hs_code 79) 1 = .ok (.ifCond .ne 11, 3) := by decide +kernel
theorem d79_4 : decode (hs_code 79) 4 = .ok (.aload_n 0, 1) := by decide +kernel
theorem d79_5 : decode (hs_code 79) 5 = .ok (.getfield 18, 3) := by decide +kernel
theorem d79_8 : decode (hs_code 79) 8 = .ok (.getfield 187, 3) := by decide +kernel
theorem d79_11 : decode (hs_code 79) 11 = .ok (.ireturn, 1) := by decide +kernel
theorem d79_12 : decode (hs_code 79) 12 = .ok (.iload_n 1, 1) := by decide +kernel
theorem d79_13 : decode (hs_code 79) 13 = .ok (.iconst 1, 1) := by decide +kernel
theorem d79_14 : decode (hs_code 79) 14 = .ok (.if_icmp .ne 13, 3) := by decide +kernel
theorem d79_17 : decode (hs_code 79) 17 = .ok (.aload_n 0, 1) := by decide +kernel
theorem d79_18 : decode (hs_code 79) 18 = .ok (.getfield 18, 3) := by decide +kernel
theorem d79_21 : decode (hs_code 79) 21 = .ok (.getfield 190, 3) := by decide +kernel
theorem d79_24 : decode (hs_code 79) 24 = .ok (.goto 4, 3) := by decide +kernel
theorem d79_27 : decode (hs_code 79) 27 = .ok (.iconst (-1), 1) := by decide +kernel
theorem d79_28 : decode (hs_code 79) 28 = .ok (.ireturn, 1) := by decide +kernel
theorem d80_0 : decode (hs_code 80) 0 = .ok (.iload_n 1, 1) := by decide +kernel
theorem d80_1 : decode (hs_code 80) 1 = .ok (.ifCond .lt 9, 3) := by decide +kernel
theorem d80_4 : decode (hs_code 80) 4 = .ok (.iload_n 1, 1) := by decide +kernel
theorem d80_5 : decode (hs_code 80) 5 = .ok (.bipush 15, 2) := by decide +kernel
theorem d80_7 : decode (hs_code 80) 7 = .ok (.if_icmp .le 9, 3) := by decide +kernel
theorem d80_10 : decode (hs_code 80) 10 = .ok (.aload_n 0, 1) := by decide +kernel
theorem d80_11 : decode (hs_code 80) 11 = .ok (.iconst 5, 1) := by decide +kernel
theorem d80_12 : decode (hs_code 80) 12 = .ok (.invokevirtual 120, 3) := by decide +kernel
theorem d80_15 : decode (hs_code 80) 15 = .ok (.ireturn, 1) := by decide +kernel
theorem d80_16 : decode (hs_code 80) 16 = .ok (.aload_n 0, 1) := by decide +kernel
theorem d80_17 : decode (hs_code 80) 17 = .ok (.iload_n 1, 1) := by decide +kernel
theorem d80_18 : decode (hs_code 80) 18 = .ok (.bipush 8, 2) := by decide +kernel
theorem d80_20 : decode (hs_code 80) 20 = .ok (.if_icmp .ge 14, 3) := by decide +kernel
theorem d80_23 : decode (hs_code 80) 23 = .ok (.aload_n 0, 1) := by decide +kernel
theorem d80_24 : decode (hs_code 80) 24 = .ok (.getfield 60, 3) := by decide +kernel
theorem d80_27 : decode (hs_code 80) 27 = .ok (.iload_n 1, 1) := by decide +kernel
theorem d80_28 : decode (hs_code 80) 28 = .ok (.invokevirtual 193, 3) := by decide +kernel
theorem d80_31 : decode (hs_code 80) 31 = .ok (.goto 11, 3) := by decide +kernel
theorem d80_34 : decode (hs_code 80) 34 = .ok (.aload_n 0, 1) := by decide +kernel
theorem d80_35 : decode (hs_code 80) 35 = .ok (.getfield 60, 3) := by decide +kernel
theorem d80_38 : decode (hs_code 80) 38 = .ok (.iload_n 1, 1) := by decide +kernel
theorem d80_39 : decode (hs_code 80) 39 = .ok (.invokevirtual 196, 3) := by decide +kernel
theorem d80_42 : decode (hs_code 80) 42 = .ok (.invokevirtual 173, 3) := by decide +kernel
theorem d80_45 : decode (hs_code 80) 45 = .ok (.ireturn, 1) := by decide +kernel
theorem d88_0 : decode (hs_code 88) 0 = .ok (.aload_n 0, 1) := by decide +kernel
theorem d88_1 : decode (hs_code 88) 1 = .ok (.iload_n 1, 1) := by decide +kernel
theorem d88_2 : decode (hs_code 88) 2 = .ok (.invokevirtual 199, 3) := by decide +kernel
theorem d88_5 : decode (hs_code 88) 5 = .ok (.ifCond .ne 9, 3) := by decide +kernel
theorem d88_8 : decode (hs_code 88) 8 = .ok (.aload_n 0, 1) := by decide +kernel
theorem d88_9 : decode (hs_code 88) 9 = .ok (.iconst 2, 1) := by decide +kernel
theorem d88_10 : decode (hs_code 88) 10 = .ok (.invokevirtual 120, 3) := by decide +kernel
theorem d88_13 : decode (hs_code 88) 13 = .ok (.ireturn, 1) := by decide +kernel
theorem d88_14 : decode (hs_code 88) 14 = .ok (.aload_n 0, 1) := by decide +kernel
theorem d88_15 : decode (hs_code 88) 15 = .ok (.getfield 60, 3) := by decide +kernel
theorem d88_18 : decode (hs_code 88) 18 = .ok (.getfield 164, 3) := by decide +kernel
theorem d88_21 : decode (hs_code 88) 21 = .ok (.astore_n 3, 1) := by decide +kernel
theorem d88_22 : decode (hs_code 88) 22 = .ok (.iload_n 2, 1) := by decide +kernel
theorem d88_23 : decode (hs_code 88) 23 = .ok (.tableswitch 73 0 3 #[29, 40, 51, 62], 29) := by decide +kernel
theorem d88_52 : decode (hs_code 88) 52 = .ok (.aload_n 0, 1) := by decide +kernel
theorem d88_53 : decode (hs_code 88) 53 = .ok (.aload_n 3, 1) := by decide +kernel
theorem d88_54 : decode (hs_code 88) 54 = .ok (.getfield 202, 3) := by decide +kernel
theorem d88_57 : decode (hs_code 88) 57 = .ok (.iload_n 1, 1) := by decide +kernel
theorem d88_58 : decode (hs_code 88) 58 = .ok (.iaload, 1) := by decide +kernel
theorem d88_59 : decode (hs_code 88) 59 = .ok (.invokevirtual 173, 3) := by decide +kernel
theorem d88_62 : decode (hs_code 88) 62 = .ok (.ireturn, 1) := by decide +kernel
theorem d88_63 : decode (hs_code 88) 63 = .ok (.aload_n 0, 1) := by decide +kernel
theorem d88_64 : decode (hs_code 88) 64 = .ok (.aload_n 3, 1) := by decide +kernel
theorem d88_65 : decode (hs_code 88) 65 = .ok (.getfield 205, 3) := by decide +kernel
theorem d88_68 : decode (hs_code 88) 68 = .ok (.iload_n 1, 1) := by decide +kernel
theorem d88_69 : decode (hs_code 88) 69 = .ok (.iaload, 1) := by decide +kernel
theorem d88_70 : decode (hs_code 88) 70 = .ok (.invokevirtual 173, 3) := by decide +kernel
theorem d88_73 : decode (hs_code 88) 73 = .ok (.ireturn, 1) := by decide +kernel
theorem d88_74 : decode (hs_code 88) 74 = .ok (.aload_n 0, 1) := by decide +kernel
theorem d88_75 : decode (hs_code 88) 75 = .ok (.aload_n 3, 1) := by decide +kernel
theorem d88_76 : decode (hs_code 88) 76 = .ok (.getfield 208, 3) := by decide +kernel
theorem d88_79 : decode (hs_code 88) 79 = .ok (.iload_n 1, 1) := by decide +kernel
theorem d88_80 : decode (hs_code 88) 80 = .ok (.iaload, 1) := by decide +kernel
theorem d88_81 : decode (hs_code 88) 81 = .ok (.invokevirtual 173, 3) := by decide +kernel
theorem d88_84 : decode (hs_code 88) 84 = .ok (.ireturn, 1) := by decide +kernel
theorem d88_85 : decode (hs_code 88) 85 = .ok (.aload_n 0, 1) := by decide +kernel
theorem d88_86 : decode (hs_code 88) 86 = .ok (.aload_n 3, 1) := by decide +kernel
theorem d88_87 : decode (hs_code 88) 87 = .ok (.getfield 211, 3) := by decide +kernel
theorem d88_90 : decode (hs_code 88) 90 = .ok (.iload_n 1, 1) := by decide +kernel
theorem d88_91 : decode (hs_code 88) 91 = .ok (.iaload, 1) := by decide +kernel
theorem d88_92 : decode (hs_code 88) 92 = .ok (.invokevirtual 173, 3) := by decide +kernel
theorem d88_95 : decode (hs_code 88) 95 = .ok (.ireturn, 1) := by decide +kernel
theorem d88_96 : decode (hs_code 88) 96 = .ok (.aload_n 0, 1) := by decide +kernel
theorem d88_97 : decode (hs_code 88) 97 = .ok (.iconst 5, 1) := by decide +kernel
theorem d88_98 : decode (hs_code 88) 98 = .ok (.invokevirtual 120, 3) := by decide +kernel
theorem d88_101 : decode (hs_code 88) 101 = .ok (.ireturn, 1) := by decide +kernel
theorem d89_0 : decode (hs_code 89) 0 = .ok (.iload_n 1, 1) := by decide +kernel
theorem d89_1 : decode (hs_code 89) 1 = .ok (.ifCond .lt 21, 3) := by decide +kernel
theorem d89_4 : decode (hs_code 89) 4 = .ok (.iload_n 1, 1) := by decide +kernel
theorem d89_5 : decode (hs_code 89) 5 = .ok (.aload_n 0, 1) := by decide +kernel
theorem d89_6 : decode (hs_code 89) 6 = .ok (.getfield 60, 3) := by decide +kernel
theorem d89_9 : decode (hs_code 89) 9 = .ok (.getfield 164, 3) := by decide +kernel
theorem d89_12 : decode (hs_code 89) 12 = .ok (.getfield 168, 3) := by decide +kernel
theorem d89_15 : decode (hs_code 89) 15 = .ok (.if_icmp .ge 7, 3) := by decide +kernel
theorem d89_18 : decode (hs_code 89) 18 = .ok (.iconst 1, 1) := by decide +kernel
theorem d89_19 : decode (hs_code 89) 19 = .ok (.goto 4, 3) := by decide +kernel
theorem d89_22 : decode (hs_code 89) 22 = .ok (.iconst 0, 1) := by decide +kernel
theorem d89_23 : decode (hs_code 89) 23 = .ok (.ireturn, 1) := by decide +kernel
theorem d90_0 : decode (hs_code 90) 0 = .ok (.aload_n 0, 1) := by decide +kernel
theorem d90_1 : decode (hs_code 90) 1 = .ok (.iload_n 1, 1) := by decide +kernel
theorem d90_2 : decode (hs_code 90) 2 = .ok (.invokevirtual 214, 3) := by decide +kernel
theorem d90_5 : decode (hs_code 90) 5 = .ok (.ifCond .ne 9, 3) := by decide +kernel
theorem d90_8 : decode (hs_code 90) 8 = .ok (.aload_n 0, 1) := by decide +kernel
theorem d90_9 : decode (hs_code 90) 9 = .ok (.iconst 2, 1) := by decide +kernel
theorem d90_10 : decode (hs_code 90) 10 = .ok (.invokevirtual 120, 3) := by decide +kernel
theorem d90_13 : decode (hs_code 90) 13 = .ok (.ireturn, 1) := by decide +kernel
theorem d90_14 : decode (hs_code 90) 14 = .ok (.iload_n 2, 1) := by decide +kernel
theorem d90_15 : decode (hs_code 90) 15 = .ok (.ifCond .eq 14, 3) := by decide +kernel
theorem d90_18 : decode (hs_code 90) 18 = .ok (.iload_n 2, 1) := by decide +kernel
theorem d90_19 : decode (hs_code 90) 19 = .ok (.iconst 1, 1) := by decide +kernel
theorem d90_20 : decode (hs_code 90) 20 = .ok (.if_icmp .eq 9, 3) := by decide +kernel
theorem d90_23 : decode (hs_code 90) 23 = .ok (.aload_n 0, 1) := by decide +kernel
theorem d90_24 : decode (hs_code 90) 24 = .ok (.iconst 5, 1) := by decide +kernel
theorem d90_25 : decode (hs_code 90) 25 = .ok (.invokevirtual 120, 3) := by decide +kernel
theorem d90_28 : decode (hs_code 90) 28 = .ok (.ireturn, 1) := by decide +kernel
theorem d90_29 : decode (hs_code 90) 29 = .ok (.aload_n 0, 1) := by decide +kernel
theorem d90_30 : decode (hs_code 90) 30 = .ok (.iload_n 2, 1) := by decide +kernel
theorem d90_31 : decode (hs_code 90) 31 = .ok (.ifCond .ne 15, 3) := by decide +kernel
theorem d90_34 : decode (hs_code 90) 34 = .ok (.aload_n 0, 1) := by decide +kernel
theorem d90_35 : decode (hs_code 90) 35 = .ok (.getfield 60, 3) := by decide +kernel
theorem d90_38 : decode (hs_code 90) 38 = .ok (.getfield 217, 3) := by decide +kernel
theorem d90_41 : decode (hs_code 90) 41 = .ok (.iload_n 1, 1) := by decide +kernel
theorem d90_42 : decode (hs_code 90) 42 = .ok (.iaload, 1) := by decide +kernel
theorem d90_43 : decode (hs_code 90) 43 = .ok (.goto 12, 3) := by decide +kernel
theorem d90_46 : decode (hs_code 90) 46 = .ok (.aload_n 0, 1) := by decide +kernel
theorem d90_47 : decode (hs_code 90) 47 = .ok (.getfield 60, 3) := by decide +kernel
theorem d90_50 : decode (hs_code 90) 50 = .ok (.getfield 220, 3) := by decide +kernel
theorem d90_53 : decode (hs_code 90) 53 = .ok (.iload_n 1, 1) := by decide +kernel
theorem d90_54 : decode (hs_code 90) 54 = .ok (.iaload, 1) := by decide +kernel
theorem d90_55 : decode (hs_code 90) 55 = .ok (.invokevirtual 173, 3) := by decide +kernel
theorem d90_58 : decode (hs_code 90) 58 = .ok (.ireturn, 1) := by decide +kernel
theorem d91_0 : decode (hs_code 91) 0 = .ok (.iload_n 1, 1) := by decide +kernel
theorem d91_1 : decode (hs_code 91) 1 = .ok (.ifCond .lt 18, 3) := by decide +kernel
theorem d91_4 : decode (hs_code 91) 4 = .ok (.iload_n 1, 1) := by decide +kernel
theorem d91_5 : decode (hs_code 91) 5 = .ok (.aload_n 0, 1) := by decide +kernel
theorem d91_6 : decode (hs_code 91) 6 = .ok (.getfield 60, 3) := by decide +kernel
theorem d91_9 : decode (hs_code 91) 9 = .ok (.getfield 399, 3) := by decide +kernel
theorem d91_12 : decode (hs_code 91) 12 = .ok (.if_icmp .ge 7, 3) := by decide +kernel
theorem d91_15 : decode (hs_code 91) 15 = .ok (.iconst 1, 1) := by decide +kernel
theorem d91_16 : decode (hs_code 91) 16 = .ok (.goto 4, 3) := by decide +kernel
theorem d91_19 : decode (hs_code 91) 19 = .ok (.iconst 0, 1) := by decide +kernel
theorem d91_20 : decode (hs_code 91) 20 = .ok (.ireturn, 1) := by decide +kernel
theorem d92_0 : decode (hs_code 92) 0 = .ok (.aload_n 0, 1) := by decide +kernel
theorem d92_1 : decode (hs_code 92) 1 = .ok (.getfield 60, 3) := by decide +kernel
theorem d92_4 : decode (hs_code 92) 4 = .ok (.getfield 223, 3) := by decide +kernel
theorem d92_7 : decode (hs_code 92) 7 = .ok (.ifCond .ge 12, 3) := by decide +kernel
theorem d92_10 : decode (hs_code 92) 10 = .ok (.aload_n 0, 1) := by decide +kernel
theorem d92_11 : decode (hs_code 92) 11 = .ok (.bipush 8, 2) := by decide +kernel
theorem d92_13 : decode (hs_code 92) 13 = .ok (.invokevirtual 120, 3) := by decide +kernel
theorem d92_16 : decode (hs_code 92) 16 = .ok (.goto 14, 3) := by decide +kernel
theorem d92_19 : decode (hs_code 92) 19 = .ok (.aload_n 0, 1) := by decide +kernel
theorem d92_20 : decode (hs_code 92) 20 = .ok (.aload_n 0, 1) := by decide +kernel
theorem d92_21 : decode (hs_code 92) 21 = .ok (.getfield 60, 3) := by decide +kernel
theorem d92_24 : decode (hs_code 92) 24 = .ok (.getfield 223, 3) := by decide +kernel
theorem d92_27 : decode (hs_code 92) 27 = .ok (.invokevirtual 173, 3) := by decide +kernel
theorem d92_30 : decode (hs_code 92) 30 = .ok (.ireturn, 1) := by decide +kernel
theorem d93_0 : decode (hs_code 93) 0 = .ok (.iload_n 1, 1) := by decide +kernel
theorem d93_1 : decode (hs_code 93) 1 = .ok (.ifCond .lt 14, 3) := by decide +kernel
theorem d93_4 : decode (hs_code 93) 4 = .ok (.iload_n 1, 1) := by decide +kernel
theorem d93_5 : decode (hs_code 93) 5 = .ok (.aload_n 0, 1) := by decide +kernel
theorem d93_6 : decode (hs_code 93) 6 = .ok (.getfield 60, 3) := by decide +kernel
theorem d93_9 : decode (hs_code 93) 9 = .ok (.getfield 226, 3) := by decide +kernel
theorem d93_12 : decode (hs_code 93) 12 = .ok (.if_icmp .lt 9, 3) := by decide +kernel
theorem d93_15 : decode (hs_code 93) 15 = .ok (.aload_n 0, 1) := by decide +kernel
theorem d93_16 : decode (hs_code 93) 16 = .ok (.iconst 2, 1) := by decide +kernel
theorem d93_17 : decode (hs_code 93) 17 = .ok (.invokevirtual 120, 3) := by decide +kernel
theorem d93_20 : decode (hs_code 93) 20 = .ok (.ireturn, 1) := by decide +kernel
theorem d93_21 : decode (hs_code 93) 21 = .ok (.aload_n 0, 1) := by decide +kernel
theorem d93_22 : decode (hs_code 93) 22 = .ok (.aload_n 0, 1) := by decide +kernel
theorem d93_23 : decode (hs_code 93) 23 = .ok (.getfield 60, 3) := by decide +kernel
theorem d93_26 : decode (hs_code 93) 26 = .ok (.getfield 229, 3) := by decide +kernel
theorem d93_29 : decode (hs_code 93) 29 = .ok (.iload_n 1, 1) := by decide +kernel
theorem d93_30 : decode (hs_code 93) 30 = .ok (.iaload, 1) := by decide +kernel
theorem d93_31 : decode (hs_code 93) 31 = .ok (.invokevirtual 173, 3) := by decide +kernel
theorem d93_34 : decode (hs_code 93) 34 = .ok (.ireturn, 1) := by decide +kernel
theorem d94_0 : decode (hs_code 94) 0 = .ok (.aload_n 0, 1) := by decide +kernel
theorem d94_1 : decode (hs_code 94) 1 = .ok (.iload_n 1, 1) := by decide +kernel
theorem d94_2 : decode (hs_code 94) 2 = .ok (.invokevirtual 232, 3) := by decide +kernel
theorem d94_5 : decode (hs_code 94) 5 = .ok (.ifCond .eq 11, 3) := by decide +kernel
theorem d94_8 : decode (hs_code 94) 8 = .ok (.aload_n 0, 1) := by decide +kernel
theorem d94_9 : decode (hs_code 94) 9 = .ok (.iload_n 2, 1) := by decide +kernel
theorem d94_10 : decode (hs_code 94) 10 = .ok (.invokevirtual 199, 3) := by decide +kernel
theorem d94_13 : decode (hs_code 94) 13 = .ok (.ifCond .ne 9, 3) := by decide +kernel
theorem d94_16 : decode (hs_code 94) 16 = .ok (.aload_n 0, 1) := by decide +kernel
theorem d94_17 : decode (hs_code 94) 17 = .ok (.iconst 2, 1) := by decide +kernel
theorem d94_18 : decode (hs_code 94) 18 = .ok (.invokevirtual 120, 3) := by decide +kernel
theorem d94_21 : decode (hs_code 94) 21 = .ok (.ireturn, 1) := by decide +kernel
theorem d94_22 : decode (hs_code 94) 22 = .ok (.aload_n 0, 1) := by decide +kernel
theorem d94_23 : decode (hs_code 94) 23 = .ok (.aload_n 0, 1) := by decide +kernel
theorem d94_24 : decode (hs_code 94) 24 = .ok (.getfield 60, 3) := by decide +kernel
theorem d94_27 : decode (hs_code 94) 27 = .ok (.iload_n 1, 1) := by decide +kernel
theorem d94_28 : decode (hs_code 94) 28 = .ok (.iload_n 2, 1) := by decide +kernel
theorem d94_29 : decode (hs_code 94) 29 = .ok (.invokevirtual 235, 3) := by decide +kernel
theorem d94_32 : decode (hs_code 94) 32 = .ok (.invokevirtual 173, 3) := by decide +kernel
theorem d94_35 : decode (hs_code 94) 35 = .ok (.ireturn, 1) := by decide +kernel
theorem d95_0 : decode (hs_code 95) 0 = .ok (.iload_n 1, 1) := by decide +kernel
theorem d95_1 : decode (hs_code 95) 1 = .ok (.ifCond .lt 18, 3) := by decide +kernel
theorem d95_4 : decode (hs_code 95) 4 = .ok (.iload_n 1, 1) := by decide +kernel
theorem d95_5 : decode (hs_code 95) 5 = .ok (.aload_n 0, 1) := by decide +kernel
theorem d95_6 : decode (hs_code 95) 6 = .ok (.getfield 60, 3) := by decide +kernel
theorem d95_9 : decode (hs_code 95) 9 = .ok (.getfield 290, 3) := by decide +kernel
theorem d95_12 : decode (hs_code 95) 12 = .ok (.if_icmp .ge 7, 3) := by decide +kernel
theorem d95_15 : decode (hs_code 95) 15 = .ok (.iconst 1, 1) := by decide +kernel
theorem d95_16 : decode (hs_code 95) 16 = .ok (.goto 4, 3) := by decide +kernel
theorem d95_19 : decode (hs_code 95) 19 = .ok (.iconst 0, 1) := by decide +kernel
theorem d95_20 : decode (hs_code 95) 20 = .ok (.ireturn, 1) := by decide +kernel
theorem d97_0 : decode (hs_code 97) 0 = .ok (.iload_n 1, 1) := by decide +kernel
theorem d97_1 : decode (hs_code 97) 1 = .ok (.ifCond .lt 14, 3) := by decide +kernel
theorem d97_4 : decode (hs_code 97) 4 = .ok (.iload_n 1, 1) := by decide +kernel
theorem d97_5 : decode (hs_code 97) 5 = .ok (.aload_n 0, 1) := by decide +kernel
theorem d97_6 : decode (hs_code 97) 6 = .ok (.getfield 60, 3) := by decide +kernel
theorem d97_9 : decode (hs_code 97) 9 = .ok (.getfield 238, 3) := by decide +kernel
theorem d97_12 : decode (hs_code 97) 12 = .ok (.if_icmp .lt 9, 3) := by decide +kernel
theorem d97_15 : decode (hs_code 97) 15 = .ok (.aload_n 0, 1) := by decide +kernel
theorem d97_16 : decode (hs_code 97) 16 = .ok (.iconst 2, 1) := by decide +kernel
theorem d97_17 : decode (hs_code 97) 17 = .ok (.invokevirtual 120, 3) := by decide +kernel
theorem d97_20 : decode (hs_code 97) 20 = .ok (.ireturn, 1) := by decide +kernel
theorem d97_21 : decode (hs_code 97) 21 = .ok (.iload_n 2, 1) := by decide +kernel
theorem d97_22 : decode (hs_code 97) 22 = .ok (.ifCond .eq 14, 3) := by decide +kernel
theorem d97_25 : decode (hs_code 97) 25 = .ok (.iload_n 2, 1) := by decide +kernel
theorem d97_26 : decode (hs_code 97) 26 = .ok (.iconst 1, 1) := by decide +kernel
theorem d97_27 : decode (hs_code 97) 27 = .ok (.if_icmp .eq 9, 3) := by decide +kernel
theorem d97_30 : decode (hs_code 97) 30 = .ok (.aload_n 0, 1) := by decide +kernel
theorem d97_31 : decode (hs_code 97) 31 = .ok (.iconst 5, 1) := by decide +kernel
theorem d97_32 : decode (hs_code 97) 32 = .ok (.invokevirtual 120, 3) := by decide +kernel
theorem d97_35 : decode (hs_code 97) 35 = .ok (.ireturn, 1) := by decide +kernel
theorem d97_36 : decode (hs_code 97) 36 = .ok (.aload_n 0, 1) := by decide +kernel
theorem d97_37 : decode (hs_code 97) 37 = .ok (.iload_n 2, 1) := by decide +kernel
theorem d97_38 : decode (hs_code 97) 38 = .ok (.ifCond .ne 15, 3) := by decide +kernel
theorem d97_41 : decode (hs_code 97) 41 = .ok (.aload_n 0, 1) := by decide +kernel
theorem d97_42 : decode (hs_code 97) 42 = .ok (.getfield 60, 3) := by decide +kernel
theorem d97_45 : decode (hs_code 97) 45 = .ok (.getfield 241, 3) := by decide +kernel
theorem d97_48 : decode (hs_code 97) 48 = .ok (.iload_n 1, 1) := by decide +kernel
theorem d97_49 : decode (hs_code 97) 49 = .ok (.iaload, 1) := by decide +kernel
theorem d97_50 : decode (hs_code 97) 50 = .ok (.goto 12, 3) := by decide +kernel
theorem d97_53 : decode (hs_code 97) 53 = .ok (.aload_n 0, 1) := by decide +kernel
theorem d97_54 : decode (hs_code 97) 54 = .ok (.getfield 60, 3) := by decide +kernel
theorem d97_57 : decode (hs_code 97) 57 = .ok (.getfield 244, 3) := by decide +kernel
theorem d97_60 : decode (hs_code 97) 60 = .ok (.iload_n 1, 1) := by decide +kernel
theorem d97_61 : decode (hs_code 97) 61 = .ok (.iaload, 1) := by decide +kernel
theorem d97_62 : decode (hs_code 97) 62 = .ok (.invokevirtual 173, 3) := by decide +kernel
theorem d97_65 : decode (hs_code 97) 65 = .ok (.ireturn, 1) := by decide +kernel
theorem d98_0 : decode (hs_code 98) 0 = .ok (.iload_n 1, 1) := by decide +kernel
theorem d98_1 : decode (hs_code 98) 1 = .ok (.invokestatic 97, 3) := by decide +kernel
theorem d98_4 : decode (hs_code 98) 4 = .ok (.ifCond .ne 9, 3) := by decide +kernel
theorem d98_7 : decode (hs_code 98) 7 = .ok (.aload_n 0, 1) := by decide +kernel
theorem d98_8 : decode (hs_code 98) 8 = .ok (.iconst 1, 1) := by decide +kernel
theorem d98_9 : decode (hs_code 98) 9 = .ok (.invokevirtual 120, 3) := by decide +kernel
theorem d98_12 : decode (hs_code 98) 12 = .ok (.ireturn, 1) := by decide +kernel
theorem d98_13 : decode (hs_code 98) 13 = .ok (.aload_n 0, 1) := by decide +kernel
theorem d98_14 : decode (hs_code 98) 14 = .ok (.getfield 11, 3) := by decide +kernel
theorem d98_17 : decode (hs_code 98) 17 = .ok (.iload_n 1, 1) := by decide +kernel
theorem d98_18 : decode (hs_code 98) 18 = .ok (.aaload, 1) := by decide +kernel
theorem d98_19 : decode (hs_code 98) 19 = .ok (.astore_n 2, 1) := by decide +kernel
theorem d98_20 : decode (hs_code 98) 20 = .ok (.aload_n 2, 1) := by decide +kernel
theorem d98_21 : decode (hs_code 98) 21 = .ok (.invokevirtual 128, 3) := by decide +kernel
theorem d98_24 : decode (hs_code 98) 24 = .ok (.ifCond .eq 9, 3) := by decide +kernel
theorem d98_27 : decode (hs_code 98) 27 = .ok (.aload_n 0, 1) := by decide +kernel
theorem d98_28 : decode (hs_code 98) 28 = .ok (.iconst 3, 1) := by decide +kernel
theorem d98_29 : decode (hs_code 98) 29 = .ok (.invokevirtual 120, 3) := by decide +kernel
theorem d98_32 : decode (hs_code 98) 32 = .ok (.ireturn, 1) := by decide +kernel
theorem d98_33 : decode (hs_code 98) 33 = .ok (.aload_n 0, 1) := by decide +kernel
theorem d98_34 : decode (hs_code 98) 34 = .ok (.getfield 60, 3) := by decide +kernel
theorem d98_37 : decode (hs_code 98) 37 = .ok (.getfield 164, 3) := by decide +kernel
theorem d98_40 : decode (hs_code 98) 40 = .ok (.astore_n 3, 1) := by decide +kernel
theorem d98_41 : decode (hs_code 98) 41 = .ok (.aload_n 2, 1) := by decide +kernel
theorem d98_42 : decode (hs_code 98) 42 = .ok (.iconst 0, 1) := by decide +kernel
theorem d98_43 : decode (hs_code 98) 43 = .ok (.aload_n 3, 1) := by decide +kernel
theorem d98_44 : decode (hs_code 98) 44 = .ok (.getfield 168, 3) := by decide +kernel
theorem d98_47 : decode (hs_code 98) 47 = .ok (.invokevirtual 134, 3) := by decide +kernel
theorem d98_50 : decode (hs_code 98) 50 = .ok (.ifCond .ne 9, 3) := by decide +kernel
theorem d98_53 : decode (hs_code 98) 53 = .ok (.aload_n 0, 1) := by decide +kernel
theorem d98_54 : decode (hs_code 98) 54 = .ok (.iconst 4, 1) := by decide +kernel
theorem d98_55 : decode (hs_code 98) 55 = .ok (.invokevirtual 120, 3) := by decide +kernel
theorem d98_58 : decode (hs_code 98) 58 = .ok (.ireturn, 1) := by decide +kernel
theorem d98_59 : decode (hs_code 98) 59 = .ok (.iconst 0, 1) := by decide +kernel
theorem d98_60 : decode (hs_code 98) 60 = .ok (.istore 4, 2) := by decide +kernel
theorem d98_62 : decode (hs_code 98) 62 = .ok (.iload 4, 2) := by decide +kernel
theorem d98_64 : decode (hs_code 98) 64 = .ok (.aload_n 3, 1) := by decide +kernel
theorem d98_65 : decode (hs_code 98) 65 = .ok (.getfield 168, 3) := by decide +kernel
theorem d98_68 : decode (hs_code 98) 68 = .ok (.if_icmp .ge 23, 3) := by decide +kernel
theorem d98_71 : decode (hs_code 98) 71 = .ok (.aload_n 2, 1) := by decide +kernel
theorem d98_72 : decode (hs_code 98) 72 = .ok (.iload 4, 2) := by decide +kernel
theorem d98_74 : decode (hs_code 98) 74 = .ok (.aload_n 3, 1) := by decide +kernel
theorem d98_75 : decode (hs_code 98) 75 = .ok (.getfield 202, 3) := by decide +kernel
theorem d98_78 : decode (hs_code 98) 78 = .ok (.iload 4, 2) := by decide +kernel
theorem d98_80 : decode (hs_code 98) 80 = .ok (.iaload, 1) := by decide +kernel
theorem d98_81 : decode (hs_code 98) 81 = .ok (.i2l, 1) := by decide +kernel
theorem d98_82 : decode (hs_code 98) 82 = .ok (.invokevirtual 116, 3) := by decide +kernel
theorem d98_85 : decode (hs_code 98) 85 = .ok (.iinc 4 1, 3) := by decide +kernel
theorem d98_88 : decode (hs_code 98) 88 = .ok (.goto (-26), 3) := by decide +kernel
theorem d98_91 : decode (hs_code 98) 91 = .ok (.aload_n 0, 1) := by decide +kernel
theorem d98_92 : decode (hs_code 98) 92 = .ok (.aload_n 3, 1) := by decide +kernel
theorem d98_93 : decode (hs_code 98) 93 = .ok (.getfield 168, 3) := by decide +kernel
theorem d98_96 : decode (hs_code 98) 96 = .ok (.invokevirtual 173, 3) := by decide +kernel
theorem d98_99 : decode (hs_code 98) 99 = .ok (.ireturn, 1) := by decide +kernel
theorem d99_0 : decode (hs_code 99) 0 = .ok (.iload_n 1, 1) := by decide +kernel
theorem d99_1 : decode (hs_code 99) 1 = .ok (.iconst 1, 1) := by decide +kernel
theorem d99_2 : decode (hs_code 99) 2 = .ok (.if_icmp .lt 9, 3) := by decide +kernel
theorem d99_5 : decode (hs_code 99) 5 = .ok (.iload_n 1, 1) := by decide +kernel
theorem d99_6 : decode (hs_code 99) 6 = .ok (.bipush 99, 2) := by decide +kernel
theorem d99_8 : decode (hs_code 99) 8 = .ok (.if_icmp .le 9, 3) := by decide +kernel
theorem d99_11 : decode (hs_code 99) 11 = .ok (.aload_n 0, 1) := by decide +kernel
theorem d99_12 : decode (hs_code 99) 12 = .ok (.iconst 5, 1) := by decide +kernel
theorem d99_13 : decode (hs_code 99) 13 = .ok (.invokevirtual 120, 3) := by decide +kernel
theorem d99_16 : decode (hs_code 99) 16 = .ok (.ireturn, 1) := by decide +kernel
theorem d99_17 : decode (hs_code 99) 17 = .ok (.aload_n 0, 1) := by decide +kernel
theorem d99_18 : decode (hs_code 99) 18 = .ok (.getfield 60, 3) := by decide +kernel
theorem d99_21 : decode (hs_code 99) 21 = .ok (.iload_n 1, 1) := by decide +kernel
theorem d99_22 : decode (hs_code 99) 22 = .ok (.invokevirtual 247, 3) := by decide +kernel
theorem d99_25 : decode (hs_code 99) 25 = .ok (.ifCond .ne 10, 3) := by decide +kernel
theorem d99_28 : decode (hs_code 99) 28 = .ok (.aload_n 0, 1) := by decide +kernel
theorem d99_29 : decode (hs_code 99) 29 = .ok (.bipush 7, 2) := by decide +kernel
theorem d99_31 : decode (hs_code 99) 31 = .ok (.invokevirtual 120, 3) := by decide +kernel
theorem d99_34 : decode (hs_code 99) 34 = .ok (.ireturn, 1) := by decide +kernel
theorem d99_35 : decode (hs_code 99) 35 = .ok (.aload_n 0, 1) := by decide +kernel
theorem d99_36 : decode (hs_code 99) 36 = .ok (.aload_n 0, 1) := by decide +kernel
theorem d99_37 : decode (hs_code 99) 37 = .ok (.getfield 60, 3) := by decide +kernel
theorem d99_40 : decode (hs_code 99) 40 = .ok (.getfield 164, 3) := by decide +kernel
theorem d99_43 : decode (hs_code 99) 43 = .ok (.invokevirtual 250, 3) := by decide +kernel
theorem d99_46 : decode (hs_code 99) 46 = .ok (.invokevirtual 173, 3) := by decide +kernel
theorem d99_49 : decode (hs_code 99) 49 = .ok (.ireturn, 1) := by decide +kernel
theorem d104_0 : decode (hs_code 104) 0 = .ok (.aload_n 0, 1) := by decide +kernel
theorem d104_1 : decode (hs_code 104) 1 = .ok (.getfield 60, 3) := by decide +kernel
theorem d104_4 : decode (hs_code 104) 4 = .ok (.iload_n 1, 1) := by decide +kernel
theorem d104_5 : decode (hs_code 104) 5 = .ok (.invokevirtual 254, 3) := by decide +kernel
theorem d104_8 : decode (hs_code 104) 8 = .ok (.ifCond .eq 10, 3) := by decide +kernel
theorem d104_11 : decode (hs_code 104) 11 = .ok (.aload_n 0, 1) := by decide +kernel
theorem d104_12 : decode (hs_code 104) 12 = .ok (.invokevirtual 108, 3) := by decide +kernel
theorem d104_15 : decode (hs_code 104) 15 = .ok (.goto 9, 3) := by decide +kernel
theorem d104_18 : decode (hs_code 104) 18 = .ok (.aload_n 0, 1) := by decide +kernel
theorem d104_19 : decode (hs_code 104) 19 = .ok (.bipush 9, 2) := by decide +kernel
theorem d104_21 : decode (hs_code 104) 21 = .ok (.invokevirtual 101, 3) := by decide +kernel
theorem d104_24 : decode (hs_code 104) 24 = .ok (.ireturn, 1) := by decide +kernel
theorem d106_0 : decode (hs_code 106) 0 = .ok (.aload_n 0, 1) := by decide +kernel
theorem d106_1 : decode (hs_code 106) 1 = .ok (.iload_n 1, 1) := by decide +kernel
theorem d106_2 : decode (hs_code 106) 2 = .ok (.iload_n 2, 1) := by decide +kernel
theorem d106_3 : decode (hs_code 106) 3 = .ok (.iconst 0, 1) := by decide +kernel
theorem d106_4 : decode (hs_code 106) 4 = .ok (.bipush 99, 2) := by decide +kernel
theorem d106_6 : decode (hs_code 106) 6 = .ok (.invokevirtual 258, 3) := by decide +kernel
theorem d106_9 : decode (hs_code 106) 9 = .ok (.istore_n 3, 1) := by decide +kernel
theorem d106_10 : decode (hs_code 106) 10 = .ok (.iload_n 3, 1) := by decide +kernel
theorem d106_11 : decode (hs_code 106) 11 = .ok (.ifCond .eq 9, 3) := by decide +kernel
theorem d106_14 : decode (hs_code 106) 14 = .ok (.aload_n 0, 1) := by decide +kernel
theorem d106_15 : decode (hs_code 106) 15 = .ok (.iload_n 3, 1) := by decide +kernel
theorem d106_16 : decode (hs_code 106) 16 = .ok (.invokevirtual 120, 3) := by decide +kernel
theorem d106_19 : decode (hs_code 106) 19 = .ok (.ireturn, 1) := by decide +kernel
theorem d106_20 : decode (hs_code 106) 20 = .ok (.aload_n 0, 1) := by decide +kernel
theorem d106_21 : decode (hs_code 106) 21 = .ok (.getfield 60, 3) := by decide +kernel
theorem d106_24 : decode (hs_code 106) 24 = .ok (.getfield 164, 3) := by decide +kernel
theorem d106_27 : decode (hs_code 106) 27 = .ok (.getfield 211, 3) := by decide +kernel
theorem d106_30 : decode (hs_code 106) 30 = .ok (.iload_n 1, 1) := by decide +kernel
theorem d106_31 : decode (hs_code 106) 31 = .ok (.iaload, 1) := by decide +kernel
theorem d106_32 : decode (hs_code 106) 32 = .ok (.istore 4, 2) := by decide +kernel
theorem d106_34 : decode (hs_code 106) 34 = .ok (.aload_n 0, 1) := by decide +kernel
theorem d106_35 : decode (hs_code 106) 35 = .ok (.getfield 60, 3) := by decide +kernel
theorem d106_38 : decode (hs_code 106) 38 = .ok (.getfield 164, 3) := by decide +kernel
theorem d106_41 : decode (hs_code 106) 41 = .ok (.getfield 211, 3) := by decide +kernel
theorem d106_44 : decode (hs_code 106) 44 = .ok (.iload_n 1, 1) := by decide +kernel
theorem d106_45 : decode (hs_code 106) 45 = .ok (.iload_n 2, 1) := by decide +kernel
theorem d106_46 : decode (hs_code 106) 46 = .ok (.iastore, 1) := by decide +kernel
theorem d106_47 : decode (hs_code 106) 47 = .ok (.aload_n 0, 1) := by decide +kernel
theorem d106_48 : decode (hs_code 106) 48 = .ok (.iload 4, 2) := by decide +kernel
theorem d106_50 : decode (hs_code 106) 50 = .ok (.invokevirtual 173, 3) := by decide +kernel
theorem d106_53 : decode (hs_code 106) 53 = .ok (.ireturn, 1) := by decide +kernel
theorem d107_0 : decode (hs_code 107) 0 = .ok (.aload_n 0, 1) := by decide +kernel
theorem d107_1 : decode (hs_code 107) 1 = .ok (.iload_n 1, 1) := by decide +kernel
theorem d107_2 : decode (hs_code 107) 2 = .ok (.invokevirtual 199, 3) := by decide +kernel
theorem d107_5 : decode (hs_code 107) 5 = .ok (.ifCond .ne 5, 3) := by decide +kernel
theorem d107_8 : decode (hs_code 107) 8 = .ok (.iconst 2, 1) := by decide +kernel
theorem d107_9 : decode (hs_code 107) 9 = .ok (.ireturn, 1) := by decide +kernel
theorem d107_10 : decode (hs_code 107) 10 = .ok (.iload_n 2, 1) := by decide +kernel
theorem d107_11 : decode (hs_code 107) 11 = .ok (.iload_n 3, 1) := by decide +kernel
theorem d107_12 : decode (hs_code 107) 12 = .ok (.if_icmp .lt 9, 3) := by decide +kernel
theorem d107_15 : decode (hs_code 107) 15 = .ok (.iload_n 2, 1) := by decide +kernel
theorem d107_16 : decode (hs_code 107) 16 = .ok (.iload 4, 2) := by decide +kernel
theorem d107_18 : decode (hs_code 107) 18 = .ok (.if_icmp .le 7, 3) := by decide +kernel
theorem d107_21 : decode (hs_code 107) 21 = .ok (.iconst 5, 1) := by decide +kernel
theorem d107_22 : decode (hs_code 107) 22 = .ok (.goto 4, 3) := by decide +kernel
theorem d107_25 : decode (hs_code 107) 25 = .ok (.iconst 0, 1) := by decide +kernel
theorem d107_26 : decode (hs_code 107) 26 = .ok (.ireturn, 1) := by decide +kernel
theorem d108_0 : decode (hs_code 108) 0 = .ok (.aload_n 0, 1) := by decide +kernel
theorem d108_1 : decode (hs_code 108) 1 = .ok (.iload_n 1, 1) := by decide +kernel
theorem d108_2 : decode (hs_code 108) 2 = .ok (.iload_n 2, 1) := by decide +kernel
theorem d108_3 : decode (hs_code 108) 3 = .ok (.invokevirtual 262, 3) := by decide +kernel
theorem d108_6 : decode (hs_code 108) 6 = .ok (.istore_n 3, 1) := by decide +kernel
theorem d108_7 : decode (hs_code 108) 7 = .ok (.iload_n 3, 1) := by decide +kernel
theorem d108_8 : decode (hs_code 108) 8 = .ok (.ifCond .eq 11, 3) := by decide +kernel
theorem d108_11 : decode (hs_code 108) 11 = .ok (.aload_n 0, 1) := by decide +kernel
theorem d108_12 : decode (hs_code 108) 12 = .ok (.iload_n 3, 1) := by decide +kernel
theorem d108_13 : decode (hs_code 108) 13 = .ok (.invokevirtual 120, 3) := by decide +kernel
theorem d108_16 : decode (hs_code 108) 16 = .ok (.goto 19, 3) := by decide +kernel
theorem d108_19 : decode (hs_code 108) 19 = .ok (.aload_n 0, 1) := by decide +kernel
theorem d108_20 : decode (hs_code 108) 20 = .ok (.aload_n 0, 1) := by decide +kernel
theorem d108_21 : decode (hs_code 108) 21 = .ok (.getfield 60, 3) := by decide +kernel
theorem d108_24 : decode (hs_code 108) 24 = .ok (.getfield 164, 3) := by decide +kernel
theorem d108_27 : decode (hs_code 108) 27 = .ok (.iload_n 1, 1) := by decide +kernel
theorem d108_28 : decode (hs_code 108) 28 = .ok (.iload_n 2, 1) := by decide +kernel
theorem d108_29 : decode (hs_code 108) 29 = .ok (.invokevirtual 265, 3) := by decide +kernel
theorem d108_32 : decode (hs_code 108) 32 = .ok (.invokevirtual 173, 3) := by decide +kernel
theorem d108_35 : decode (hs_code 108) 35 = .ok (.ireturn, 1) := by decide +kernel
theorem d109_0 : decode (hs_code 109) 0 = .ok (.aload_n 0, 1) := by decide +kernel
theorem d109_1 : decode (hs_code 109) 1 = .ok (.iload_n 1, 1) := by decide +kernel
theorem d109_2 : decode (hs_code 109) 2 = .ok (.iload_n 2, 1) := by decide +kernel
theorem d109_3 : decode (hs_code 109) 3 = .ok (.iconst 0, 1) := by decide +kernel
theorem d109_4 : decode (hs_code 109) 4 = .ok (.bipush 99, 2) := by decide +kernel
theorem d109_6 : decode (hs_code 109) 6 = .ok (.invokevirtual 258, 3) := by decide +kernel
theorem d109_9 : decode (hs_code 109) 9 = .ok (.istore_n 3, 1) := by decide +kernel
theorem d109_10 : decode (hs_code 109) 10 = .ok (.iload_n 3, 1) := by decide +kernel
theorem d109_11 : decode (hs_code 109) 11 = .ok (.ifCond .eq 5, 3) := by decide +kernel
theorem d109_14 : decode (hs_code 109) 14 = .ok (.iload_n 3, 1) := by decide +kernel
theorem d109_15 : decode (hs_code 109) 15 = .ok (.ireturn, 1) := by decide +kernel
theorem d109_16 : decode (hs_code 109) 16 = .ok (.aload_n 0, 1) := by decide +kernel
theorem d109_17 : decode (hs_code 109) 17 = .ok (.getfield 60, 3) := by decide +kernel
theorem d109_20 : decode (hs_code 109) 20 = .ok (.getfield 164, 3) := by decide +kernel
theorem d109_23 : decode (hs_code 109) 23 = .ok (.getfield 202, 3) := by decide +kernel
theorem d109_26 : decode (hs_code 109) 26 = .ok (.iload_n 1, 1) := by decide +kernel
theorem d109_27 : decode (hs_code 109) 27 = .ok (.iaload, 1) := by decide +kernel
theorem d109_28 : decode (hs_code 109) 28 = .ok (.iload_n 2, 1) := by decide +kernel
theorem d109_29 : decode (hs_code 109) 29 = .ok (.if_icmp .gt 8, 3) := by decide +kernel
theorem d109_32 : decode (hs_code 109) 32 = .ok (.bipush 9, 2) := by decide +kernel
theorem d109_34 : decode (hs_code 109) 34 = .ok (.goto 4, 3) := by decide +kernel
theorem d109_37 : decode (hs_code 109) 37 = .ok (.iconst 0, 1) := by decide +kernel
theorem d109_38 : decode (hs_code 109) 38 = .ok (.ireturn, 1) := by decide +kernel
theorem d111_0 : decode (hs_code 111) 0 = .ok (.aload_n 0, 1) := by decide +kernel
theorem d111_1 : decode (hs_code 111) 1 = .ok (.iload_n 1, 1) := by decide +kernel
theorem d111_2 : decode (hs_code 111) 2 = .ok (.iload_n 2, 1) := by decide +kernel
theorem d111_3 : decode (hs_code 111) 3 = .ok (.invokevirtual 262, 3) := by decide +kernel
theorem d111_6 : decode (hs_code 111) 6 = .ok (.istore_n 3, 1) := by decide +kernel
theorem d111_7 : decode (hs_code 111) 7 = .ok (.iload_n 3, 1) := by decide +kernel
theorem d111_8 : decode (hs_code 111) 8 = .ok (.ifCond .eq 9, 3) := by decide +kernel
theorem d111_11 : decode (hs_code 111) 11 = .ok (.aload_n 0, 1) := by decide +kernel
theorem d111_12 : decode (hs_code 111) 12 = .ok (.iload_n 3, 1) := by decide +kernel
theorem d111_13 : decode (hs_code 111) 13 = .ok (.invokevirtual 120, 3) := by decide +kernel
theorem d111_16 : decode (hs_code 111) 16 = .ok (.ireturn, 1) := by decide +kernel
theorem d111_17 : decode (hs_code 111) 17 = .ok (.aload_n 0, 1) := by decide +kernel
theorem d111_18 : decode (hs_code 111) 18 = .ok (.getfield 60, 3) := by decide +kernel
theorem d111_21 : decode (hs_code 111) 21 = .ok (.iload_n 1, 1) := by decide +kernel
theorem d111_22 : decode (hs_code 111) 22 = .ok (.iload_n 2, 1) := by decide +kernel
theorem d111_23 : decode (hs_code 111) 23 = .ok (.invokevirtual 268, 3) := by decide +kernel
theorem d111_26 : decode (hs_code 111) 26 = .ok (.ifCond .gt 9, 3) := by decide +kernel
theorem d111_29 : decode (hs_code 111) 29 = .ok (.aload_n 0, 1) := by decide +kernel
theorem d111_30 : decode (hs_code 111) 30 = .ok (.iconst 0, 1) := by decide +kernel
theorem d111_31 : decode (hs_code 111) 31 = .ok (.invokevirtual 173, 3) := by decide +kernel
theorem d111_34 : decode (hs_code 111) 34 = .ok (.ireturn, 1) := by decide +kernel
theorem d111_35 : decode (hs_code 111) 35 = .ok (.aload_n 0, 1) := by decide +kernel
theorem d111_36 : decode (hs_code 111) 36 = .ok (.getfield 60, 3) := by decide +kernel
theorem d111_39 : decode (hs_code 111) 39 = .ok (.getfield 164, 3) := by decide +kernel
theorem d111_42 : decode (hs_code 111) 42 = .ok (.iload_n 1, 1) := by decide +kernel
theorem d111_43 : decode (hs_code 111) 43 = .ok (.iload_n 2, 1) := by decide +kernel
theorem d111_44 : decode (hs_code 111) 44 = .ok (.invokevirtual 265, 3) := by decide +kernel
theorem d111_47 : decode (hs_code 111) 47 = .ok (.pop, 1) := by decide +kernel
theorem d111_48 : decode (hs_code 111) 48 = .ok (.aload_n 0, 1) := by decide +kernel
theorem d111_49 : decode (hs_code 111) 49 = .ok (.iconst 1, 1) := by decide +kernel
theorem d111_50 : decode (hs_code 111) 50 = .ok (.invokevirtual 173, 3) := by decide +kernel
theorem d111_53 : decode (hs_code 111) 53 = .ok (.ireturn, 1) := by decide +kernel
theorem d113_0 : decode (hs_code 113) 0 = .ok (.aload_n 0, 1) := by decide +kernel
theorem d113_1 : decode (hs_code 113) 1 = .ok (.getfield 60, 3) := by decide +kernel
theorem d113_4 : decode (hs_code 113) 4 = .ok (.invokevirtual 271, 3) := by decide +kernel
theorem d113_7 : decode (hs_code 113) 7 = .ok (.ifCond .eq 17, 3) := by decide +kernel
theorem d113_10 : decode (hs_code 113) 10 = .ok (.aload_n 0, 1) := by decide +kernel
theorem d113_11 : decode (hs_code 113) 11 = .ok (.aload_n 0, 1) := by decide +kernel
theorem d113_12 : decode (hs_code 113) 12 = .ok (.getfield 60, 3) := by decide +kernel
theorem d113_15 : decode (hs_code 113) 15 = .ok (.getfield 223, 3) := by decide +kernel
theorem d113_18 : decode (hs_code 113) 18 = .ok (.invokevirtual 173, 3) := by decide +kernel
theorem d113_21 : decode (hs_code 113) 21 = .ok (.goto 9, 3) := by decide +kernel
theorem d113_24 : decode (hs_code 113) 24 = .ok (.aload_n 0, 1) := by decide +kernel
theorem d113_25 : decode (hs_code 113) 25 = .ok (.bipush 9, 2) := by decide +kernel
theorem d113_27 : decode (hs_code 113) 27 = .ok (.invokevirtual 120, 3) := by decide +kernel
theorem d113_30 : decode (hs_code 113) 30 = .ok (.ireturn, 1) := by decide +kernel
theorem d115_0 : decode (hs_code 115) 0 = .ok (.aload_n 0, 1) := by decide +kernel
theorem d115_1 : decode (hs_code 115) 1 = .ok (.iload_n 1, 1) := by decide +kernel
theorem d115_2 : decode (hs_code 115) 2 = .ok (.iload_n 2, 1) := by decide +kernel
theorem d115_3 : decode (hs_code 115) 3 = .ok (.iconst 0, 1) := by decide +kernel
theorem d115_4 : decode (hs_code 115) 4 = .ok (.iconst 2, 1) := by decide +kernel
theorem d115_5 : decode (hs_code 115) 5 = .ok (.invokevirtual 258, 3) := by decide +kernel
theorem d115_8 : decode (hs_code 115) 8 = .ok (.istore_n 3, 1) := by decide +kernel
theorem d115_9 : decode (hs_code 115) 9 = .ok (.iload_n 3, 1) := by decide +kernel
theorem d115_10 : decode (hs_code 115) 10 = .ok (.ifCond .eq 9, 3) := by decide +kernel
theorem d115_13 : decode (hs_code 115) 13 = .ok (.aload_n 0, 1) := by decide +kernel
theorem d115_14 : decode (hs_code 115) 14 = .ok (.iload_n 3, 1) := by decide +kernel
theorem d115_15 : decode (hs_code 115) 15 = .ok (.invokevirtual 101, 3) := by decide +kernel
theorem d115_18 : decode (hs_code 115) 18 = .ok (.ireturn, 1) := by decide +kernel
theorem d115_19 : decode (hs_code 115) 19 = .ok (.aload_n 0, 1) := by decide +kernel
theorem d115_20 : decode (hs_code 115) 20 = .ok (.getfield 60, 3) := by decide +kernel
theorem d115_23 : decode (hs_code 115) 23 = .ok (.getfield 164, 3) := by decide +kernel
theorem d115_26 : decode (hs_code 115) 26 = .ok (.getfield 208, 3) := by decide +kernel
theorem d115_29 : decode (hs_code 115) 29 = .ok (.iload_n 1, 1) := by decide +kernel
theorem d115_30 : decode (hs_code 115) 30 = .ok (.iaload, 1) := by decide +kernel
theorem d115_31 : decode (hs_code 115) 31 = .ok (.iload_n 2, 1) := by decide +kernel
theorem d115_32 : decode (hs_code 115) 32 = .ok (.if_icmp .ne 10, 3) := by decide +kernel
theorem d115_35 : decode (hs_code 115) 35 = .ok (.aload_n 0, 1) := by decide +kernel
theorem d115_36 : decode (hs_code 115) 36 = .ok (.bipush 9, 2) := by decide +kernel
theorem d115_38 : decode (hs_code 115) 38 = .ok (.invokevirtual 101, 3) := by decide +kernel
theorem d115_41 : decode (hs_code 115) 41 = .ok (.ireturn, 1) := by decide +kernel
theorem d115_42 : decode (hs_code 115) 42 = .ok (.aload_n 0, 1) := by decide +kernel
theorem d115_43 : decode (hs_code 115) 43 = .ok (.getfield 60, 3) := by decide +kernel
theorem d115_46 : decode (hs_code 115) 46 = .ok (.getfield 164, 3) := by decide +kernel
theorem d115_49 : decode (hs_code 115) 49 = .ok (.getfield 208, 3) := by decide +kernel
theorem d115_52 : decode (hs_code 115) 52 = .ok (.iload_n 1, 1) := by decide +kernel
theorem d115_53 : decode (hs_code 115) 53 = .ok (.iload_n 2, 1) := by decide +kernel
theorem d115_54 : decode (hs_code 115) 54 = .ok (.iastore, 1) := by decide +kernel
theorem d115_55 : decode (hs_code 115) 55 = .ok (.aload_n 0, 1) := by decide +kernel
theorem d115_56 : decode (hs_code 115) 56 = .ok (.invokevirtual 108, 3) := by decide +kernel
theorem d115_59 : decode (hs_code 115) 59 = .ok (.ireturn, 1) := by decide +kernel
theorem d116_0 : decode (hs_code 116) 0 = .ok (.aload_n 0, 1) := by decide +kernel
theorem d116_1 : decode (hs_code 116) 1 = .ok (.iload_n 1, 1) := by decide +kernel
theorem d116_2 : decode (hs_code 116) 2 = .ok (.invokevirtual 214, 3) := by decide +kernel
theorem d116_5 : decode (hs_code 116) 5 = .ok (.ifCond .ne 9, 3) := by decide +kernel
theorem d116_8 : decode (hs_code 116) 8 = .ok (.aload_n 0, 1) := by decide +kernel
theorem d116_9 : decode (hs_code 116) 9 = .ok (.iconst 2, 1) := by decide +kernel
theorem d116_10 : decode (hs_code 116) 10 = .ok (.invokevirtual 101, 3) := by decide +kernel
theorem d116_13 : decode (hs_code 116) 13 = .ok (.ireturn, 1) := by decide +kernel
theorem d116_14 : decode (hs_code 116) 14 = .ok (.iload_n 2, 1) := by decide +kernel
theorem d116_15 : decode (hs_code 116) 15 = .ok (.iconst 1, 1) := by decide +kernel
theorem d116_16 : decode (hs_code 116) 16 = .ok (.if_icmp .lt 9, 3) := by decide +kernel
theorem d116_19 : decode (hs_code 116) 19 = .ok (.iload_n 2, 1) := by decide +kernel
theorem d116_20 : decode (hs_code 116) 20 = .ok (.bipush 99, 2) := by decide +kernel
theorem d116_22 : decode (hs_code 116) 22 = .ok (.if_icmp .le 9, 3) := by decide +kernel
theorem d116_25 : decode (hs_code 116) 25 = .ok (.aload_n 0, 1) := by decide +kernel
theorem d116_26 : decode (hs_code 116) 26 = .ok (.iconst 5, 1) := by decide +kernel
theorem d116_27 : decode (hs_code 116) 27 = .ok (.invokevirtual 101, 3) := by decide +kernel
theorem d116_30 : decode (hs_code 116) 30 = .ok (.ireturn, 1) := by decide +kernel
theorem d116_31 : decode (hs_code 116) 31 = .ok (.aload_n 0, 1) := by decide +kernel
theorem d116_32 : decode (hs_code 116) 32 = .ok (.getfield 60, 3) := by decide +kernel
theorem d116_35 : decode (hs_code 116) 35 = .ok (.getfield 217, 3) := by decide +kernel
theorem d116_38 : decode (hs_code 116) 38 = .ok (.iload_n 1, 1) := by decide +kernel
theorem d116_39 : decode (hs_code 116) 39 = .ok (.iload_n 2, 1) := by decide +kernel
theorem d116_40 : decode (hs_code 116) 40 = .ok (.iastore, 1) := by decide +kernel
theorem d116_41 : decode (hs_code 116) 41 = .ok (.aload_n 0, 1) := by decide +kernel
theorem d116_42 : decode (hs_code 116) 42 = .ok (.invokevirtual 108, 3) := by decide +kernel
theorem d116_45 : decode (hs_code 116) 45 = .ok (.ireturn, 1) := by decide +kernel
theorem d117_0 : decode (hs_code 117) 0 = .ok (.iload_n 1, 1) := by decide +kernel
theorem d117_1 : decode (hs_code 117) 1 = .ok (.bipush 6, 2) := by decide +kernel
theorem d117_3 : decode (hs_code 117) 3 = .ok (.if_icmp .ne 26, 3) := by decide +kernel
theorem d117_6 : decode (hs_code 117) 6 = .ok (.iload_n 2, 1) := by decide +kernel
theorem d117_7 : decode (hs_code 117) 7 = .ok (.ifCond .lt 22, 3) := by decide +kernel
theorem d117_10 : decode (hs_code 117) 10 = .ok (.iload_n 2, 1) := by decide +kernel
theorem d117_11 : decode (hs_code 117) 11 = .ok (.bipush 16, 2) := by decide +kernel
theorem d117_13 : decode (hs_code 117) 13 = .ok (.if_icmp .gt 16, 3) := by decide +kernel
theorem d117_16 : decode (hs_code 117) 16 = .ok (.aload_n 0, 1) := by decide +kernel
theorem d117_17 : decode (hs_code 117) 17 = .ok (.getfield 60, 3) := by decide +kernel
theorem d117_20 : decode (hs_code 117) 20 = .ok (.iload_n 2, 1) := by decide +kernel
theorem d117_21 : decode (hs_code 117) 21 = .ok (.putfield 274, 3) := by decide +kernel
theorem d117_24 : decode (hs_code 117) 24 = .ok (.aload_n 0, 1) := by decide +kernel
theorem d117_25 : decode (hs_code 117) 25 = .ok (.invokevirtual 108, 3) := by decide +kernel
theorem d117_28 : decode (hs_code 117) 28 = .ok (.ireturn, 1) := by decide +kernel
theorem d117_29 : decode (hs_code 117) 29 = .ok (.iload_n 1, 1) := by decide +kernel
theorem d117_30 : decode (hs_code 117) 30 = .ok (.bipush 7, 2) := by decide +kernel
theorem d117_32 : decode (hs_code 117) 32 = .ok (.if_icmp .ne 27, 3) := by decide +kernel
theorem d117_35 : decode (hs_code 117) 35 = .ok (.iload_n 2, 1) := by decide +kernel
theorem d117_36 : decode (hs_code 117) 36 = .ok (.iconst 1, 1) := by decide +kernel
theorem d117_37 : decode (hs_code 117) 37 = .ok (.if_icmp .lt 22, 3) := by decide +kernel
theorem d117_40 : decode (hs_code 117) 40 = .ok (.iload_n 2, 1) := by decide +kernel
theorem d117_41 : decode (hs_code 117) 41 = .ok (.bipush 99, 2) := by decide +kernel
theorem d117_43 : decode (hs_code 117) 43 = .ok (.if_icmp .gt 16, 3) := by decide +kernel
theorem d117_46 : decode (hs_code 117) 46 = .ok (.aload_n 0, 1) := by decide +kernel
theorem d117_47 : decode (hs_code 117) 47 = .ok (.getfield 60, 3) := by decide +kernel
theorem d117_50 : decode (hs_code 117) 50 = .ok (.iload_n 2, 1) := by decide +kernel
theorem d117_51 : decode (hs_code 117) 51 = .ok (.putfield 277, 3) := by decide +kernel
theorem d117_54 : decode (hs_code 117) 54 = .ok (.aload_n 0, 1) := by decide +kernel
theorem d117_55 : decode (hs_code 117) 55 = .ok (.invokevirtual 108, 3) := by decide +kernel
theorem d117_58 : decode (hs_code 117) 58 = .ok (.ireturn, 1) := by decide +kernel
theorem d117_59 : decode (hs_code 117) 59 = .ok (.aload_n 0, 1) := by decide +kernel
theorem d117_60 : decode (hs_code 117) 60 = .ok (.iconst 5, 1) := by decide +kernel
theorem d117_61 : decode (hs_code 117) 61 = .ok (.invokevirtual 101, 3) := by decide +kernel
theorem d117_64 : decode (hs_code 117) 64 = .ok (.ireturn, 1) := by decide +kernel
theorem d118_0 : decode (hs_code 118) 0 = .ok (.aload_n 0, 1) := by decide +kernel
theorem d118_1 : decode (hs_code 118) 1 = .ok (.iload_n 1, 1) := by decide +kernel
theorem d118_2 : decode (hs_code 118) 2 = .ok (.invokevirtual 232, 3) := by decide +kernel
theorem d118_5 : decode (hs_code 118) 5 = .ok (.ifCond .eq 11, 3) := by decide +kernel
theorem d118_8 : decode (hs_code 118) 8 = .ok (.aload_n 0, 1) := by decide +kernel
theorem d118_9 : decode (hs_code 118) 9 = .ok (.iload_n 2, 1) := by decide +kernel
theorem d118_10 : decode (hs_code 118) 10 = .ok (.invokevirtual 199, 3) := by decide +kernel
theorem d118_13 : decode (hs_code 118) 13 = .ok (.ifCond .ne 9, 3) := by decide +kernel
theorem d118_16 : decode (hs_code 118) 16 = .ok (.aload_n 0, 1) := by decide +kernel
theorem d118_17 : decode (hs_code 118) 17 = .ok (.iconst 2, 1) := by decide +kernel
theorem d118_18 : decode (hs_code 118) 18 = .ok (.invokevirtual 101, 3) := by decide +kernel
theorem d118_21 : decode (hs_code 118) 21 = .ok (.ireturn, 1) := by decide +kernel
theorem d118_22 : decode (hs_code 118) 22 = .ok (.iload_n 3, 1) := by decide +kernel
theorem d118_23 : decode (hs_code 118) 23 = .ok (.ifCond .lt 8, 3) := by decide +kernel
theorem d118_26 : decode (hs_code 118) 26 = .ok (.iload_n 3, 1) := by decide +kernel
theorem d118_27 : decode (hs_code 118) 27 = .ok (.iconst 3, 1) := by decide +kernel
theorem d118_28 : decode (hs_code 118) 28 = .ok (.if_icmp .le 9, 3) := by decide +kernel
theorem d118_31 : decode (hs_code 118) 31 = .ok (.aload_n 0, 1) := by decide +kernel
theorem d118_32 : decode (hs_code 118) 32 = .ok (.iconst 5, 1) := by decide +kernel
theorem d118_33 : decode (hs_code 118) 33 = .ok (.invokevirtual 101, 3) := by decide +kernel
theorem d118_36 : decode (hs_code 118) 36 = .ok (.ireturn, 1) := by decide +kernel
theorem d118_37 : decode (hs_code 118) 37 = .ok (.aload_n 0, 1) := by decide +kernel
theorem d118_38 : decode (hs_code 118) 38 = .ok (.getfield 60, 3) := by decide +kernel
theorem d118_41 : decode (hs_code 118) 41 = .ok (.iload_n 1, 1) := by decide +kernel
theorem d118_42 : decode (hs_code 118) 42 = .ok (.iload_n 2, 1) := by decide +kernel
theorem d118_43 : decode (hs_code 118) 43 = .ok (.invokevirtual 235, 3) := by decide +kernel
theorem d118_46 : decode (hs_code 118) 46 = .ok (.iload_n 3, 1) := by decide +kernel
theorem d118_47 : decode (hs_code 118) 47 = .ok (.if_icmp .ne 10, 3) := by decide +kernel
theorem d118_50 : decode (hs_code 118) 50 = .ok (.aload_n 0, 1) := by decide +kernel
theorem d118_51 : decode (hs_code 118) 51 = .ok (.bipush 9, 2) := by decide +kernel
theorem d118_53 : decode (hs_code 118) 53 = .ok (.invokevirtual 101, 3) := by decide +kernel
theorem d118_56 : decode (hs_code 118) 56 = .ok (.ireturn, 1) := by decide +kernel
theorem d118_57 : decode (hs_code 118) 57 = .ok (.aload_n 0, 1) := by decide +kernel
theorem d118_58 : decode (hs_code 118) 58 = .ok (.getfield 60, 3) := by decide +kernel
theorem d118_61 : decode (hs_code 118) 61 = .ok (.iload_n 1, 1) := by decide +kernel
theorem d118_62 : decode (hs_code 118) 62 = .ok (.iload_n 2, 1) := by decide +kernel
theorem d118_63 : decode (hs_code 118) 63 = .ok (.iload_n 3, 1) := by decide +kernel
theorem d118_64 : decode (hs_code 118) 64 = .ok (.invokevirtual 280, 3) := by decide +kernel
theorem d118_67 : decode (hs_code 118) 67 = .ok (.aload_n 0, 1) := by decide +kernel
theorem d118_68 : decode (hs_code 118) 68 = .ok (.invokevirtual 108, 3) := by decide +kernel
theorem d118_71 : decode (hs_code 118) 71 = .ok (.ireturn, 1) := by decide +kernel
theorem d119_0 : decode (hs_code 119) 0 = .ok (.iload_n 1, 1) := by decide +kernel
theorem d119_1 : decode (hs_code 119) 1 = .ok (.ifCond .lt 19, 3) := by decide +kernel
theorem d119_4 : decode (hs_code 119) 4 = .ok (.iload_n 1, 1) := by decide +kernel
theorem d119_5 : decode (hs_code 119) 5 = .ok (.bipush 99, 2) := by decide +kernel
theorem d119_7 : decode (hs_code 119) 7 = .ok (.if_icmp .gt 13, 3) := by decide +kernel
theorem d119_10 : decode (hs_code 119) 10 = .ok (.iload_n 2, 1) := by decide +kernel
theorem d119_11 : decode (hs_code 119) 11 = .ok (.ifCond .lt 9, 3) := by decide +kernel
theorem d119_14 : decode (hs_code 119) 14 = .ok (.iload_n 2, 1) := by decide +kernel
theorem d119_15 : decode (hs_code 119) 15 = .ok (.bipush 9, 2) := by decide +kernel
theorem d119_17 : decode (hs_code 119) 17 = .ok (.if_icmp .le 9, 3) := by decide +kernel
theorem d119_20 : decode (hs_code 119) 20 = .ok (.aload_n 0, 1) := by decide +kernel
theorem d119_21 : decode (hs_code 119) 21 = .ok (.iconst 5, 1) := by decide +kernel
theorem d119_22 : decode (hs_code 119) 22 = .ok (.invokevirtual 120, 3) := by decide +kernel
theorem d119_25 : decode (hs_code 119) 25 = .ok (.ireturn, 1) := by decide +kernel
theorem d119_26 : decode (hs_code 119) 26 = .ok (.aload_n 0, 1) := by decide +kernel
theorem d119_27 : decode (hs_code 119) 27 = .ok (.getfield 60, 3) := by decide +kernel
theorem d119_30 : decode (hs_code 119) 30 = .ok (.getfield 164, 3) := by decide +kernel
theorem d119_33 : decode (hs_code 119) 33 = .ok (.getfield 168, 3) := by decide +kernel
theorem d119_36 : decode (hs_code 119) 36 = .ok (.bipush 8, 2) := by decide +kernel
theorem d119_38 : decode (hs_code 119) 38 = .ok (.if_icmp .lt 10, 3) := by decide +kernel
theorem d119_41 : decode (hs_code 119) 41 = .ok (.aload_n 0, 1) := by decide +kernel
theorem d119_42 : decode (hs_code 119) 42 = .ok (.bipush 7, 2) := by decide +kernel
theorem d119_44 : decode (hs_code 119) 44 = .ok (.invokevirtual 120, 3) := by decide +kernel
theorem d119_47 : decode (hs_code 119) 47 = .ok (.ireturn, 1) := by decide +kernel
theorem d119_48 : decode (hs_code 119) 48 = .ok (.aload_n 0, 1) := by decide +kernel
theorem d119_49 : decode (hs_code 119) 49 = .ok (.getfield 60, 3) := by decide +kernel
theorem d119_52 : decode (hs_code 119) 52 = .ok (.getfield 164, 3) := by decide +kernel
theorem d119_55 : decode (hs_code 119) 55 = .ok (.iload_n 1, 1) := by decide +kernel
theorem d119_56 : decode (hs_code 119) 56 = .ok (.iload_n 2, 1) := by decide +kernel
theorem d119_57 : decode (hs_code 119) 57 = .ok (.iconst 1, 1) := by decide +kernel
theorem d119_58 : decode (hs_code 119) 58 = .ok (.invokevirtual 284, 3) := by decide +kernel
theorem d119_61 : decode (hs_code 119) 61 = .ok (.aload_n 0, 1) := by decide +kernel
theorem d119_62 : decode (hs_code 119) 62 = .ok (.aload_n 0, 1) := by decide +kernel
theorem d119_63 : decode (hs_code 119) 63 = .ok (.getfield 60, 3) := by decide +kernel
theorem d119_66 : decode (hs_code 119) 66 = .ok (.getfield 164, 3) := by decide +kernel
theorem d119_69 : decode (hs_code 119) 69 = .ok (.getfield 168, 3) := by decide +kernel
theorem d119_72 : decode (hs_code 119) 72 = .ok (.iconst 1, 1) := by decide +kernel
theorem d119_73 : decode (hs_code 119) 73 = .ok (.isub, 1) := by decide +kernel
theorem d119_74 : decode (hs_code 119) 74 = .ok (.invokevirtual 173, 3) := by decide +kernel
theorem d119_77 : decode (hs_code 119) 77 = .ok (.ireturn, 1) := by decide +kernel
theorem d120_0 : decode (hs_code 120) 0 = .ok (.aload_n 0, 1) := by decide +kernel
theorem d120_1 : decode (hs_code 120) 1 = .ok (.iload_n 1, 1) := by decide +kernel
theorem d120_2 : decode (hs_code 120) 2 = .ok (.invokevirtual 232, 3) := by decide +kernel
theorem d120_5 : decode (hs_code 120) 5 = .ok (.ifCond .ne 9, 3) := by decide +kernel
theorem d120_8 : decode (hs_code 120) 8 = .ok (.aload_n 0, 1) := by decide +kernel
theorem d120_9 : decode (hs_code 120) 9 = .ok (.iconst 2, 1) := by decide +kernel
theorem d120_10 : decode (hs_code 120) 10 = .ok (.invokevirtual 120, 3) := by decide +kernel
theorem d120_13 : decode (hs_code 120) 13 = .ok (.ireturn, 1) := by decide +kernel
theorem d120_14 : decode (hs_code 120) 14 = .ok (.aload_n 0, 1) := by decide +kernel
theorem d120_15 : decode (hs_code 120) 15 = .ok (.aload_n 0, 1) := by decide +kernel
theorem d120_16 : decode (hs_code 120) 16 = .ok (.getfield 60, 3) := by decide +kernel
theorem d120_19 : decode (hs_code 120) 19 = .ok (.iload_n 1, 1) := by decide +kernel
theorem d120_20 : decode (hs_code 120) 20 = .ok (.iconst 0, 1) := by decide +kernel
theorem d120_21 : decode (hs_code 120) 21 = .ok (.invokevirtual 287, 3) := by decide +kernel
theorem d120_24 : decode (hs_code 120) 24 = .ok (.ifCond .eq 7, 3) := by decide +kernel
theorem d120_27 : decode (hs_code 120) 27 = .ok (.iconst 1, 1) := by decide +kernel
theorem d120_28 : decode (hs_code 120) 28 = .ok (.goto 4, 3) := by decide +kernel
theorem d120_31 : decode (hs_code 120) 31 = .ok (.iconst 0, 1) := by decide +kernel
theorem d120_32 : decode (hs_code 120) 32 = .ok (.invokevirtual 173, 3) := by decide +kernel
theorem d120_35 : decode (hs_code 120) 35 = .ok (.ireturn, 1) := by decide +kernel
theorem d122_0 : decode (hs_code 122) 0 = .ok (.iconst 0, 1) := by decide +kernel
theorem d122_1 : decode (hs_code 122) 1 = .ok (.istore_n 1, 1) := by decide +kernel
theorem d122_2 : decode (hs_code 122) 2 = .ok (.iload_n 1, 1) := by decide +kernel
theorem d122_3 : decode (hs_code 122) 3 = .ok (.aload_n 0, 1) := by decide +kernel
theorem d122_4 : decode (hs_code 122) 4 = .ok (.getfield 60, 3) := by decide +kernel
theorem d122_7 : decode (hs_code 122) 7 = .ok (.getfield 290, 3) := by decide +kernel
theorem d122_10 : decode (hs_code 122) 10 = .ok (.if_icmp .ge 27, 3) := by decide +kernel
theorem d122_13 : decode (hs_code 122) 13 = .ok (.aload_n 0, 1) := by decide +kernel
theorem d122_14 : decode (hs_code 122) 14 = .ok (.getfield 60, 3) := by decide +kernel
theorem d122_17 : decode (hs_code 122) 17 = .ok (.iload_n 1, 1) := by decide +kernel
theorem d122_18 : decode (hs_code 122) 18 = .ok (.iconst 0, 1) := by decide +kernel
theorem d122_19 : decode (hs_code 122) 19 = .ok (.invokevirtual 287, 3) := by decide +kernel
theorem d122_22 : decode (hs_code 122) 22 = .ok (.ifCond .eq 9, 3) := by decide +kernel
theorem d122_25 : decode (hs_code 122) 25 = .ok (.aload_n 0, 1) := by decide +kernel
theorem d122_26 : decode (hs_code 122) 26 = .ok (.iload_n 1, 1) := by decide +kernel
theorem d122_27 : decode (hs_code 122) 27 = .ok (.invokevirtual 173, 3) := by decide +kernel
theorem d122_30 : decode (hs_code 122) 30 = .ok (.ireturn, 1) := by decide +kernel
theorem d122_31 : decode (hs_code 122) 31 = .ok (.iinc 1 1, 3) := by decide +kernel
theorem d122_34 : decode (hs_code 122) 34 = .ok (.goto (-32), 3) := by decide +kernel
theorem d122_37 : decode (hs_code 122) 37 = .ok (.aload_n 0, 1) := by decide +kernel
theorem d122_38 : decode (hs_code 122) 38 = .ok (.bipush 8, 2) := by decide +kernel
theorem d122_40 : decode (hs_code 122) 40 = .ok (.invokevirtual 120, 3) := by decide +kernel
theorem d122_43 : decode (hs_code 122) 43 = .ok (.ireturn, 1) := by decide +kernel
theorem d123_0 : decode (hs_code 123) 0 = .ok (.aload_n 0, 1) := by decide +kernel
theorem d123_1 : decode (hs_code 123) 1 = .ok (.iload_n 1, 1) := by decide +kernel
theorem d123_2 : decode (hs_code 123) 2 = .ok (.invokevirtual 232, 3) := by decide +kernel
theorem d123_5 : decode (hs_code 123) 5 = .ok (.ifCond .ne 9, 3) := by decide +kernel
theorem d123_8 : decode (hs_code 123) 8 = .ok (.aload_n 0, 1) := by decide +kernel
theorem d123_9 : decode (hs_code 123) 9 = .ok (.iconst 2, 1) := by decide +kernel
theorem d123_10 : decode (hs_code 123) 10 = .ok (.invokevirtual 120, 3) := by decide +kernel
theorem d123_13 : decode (hs_code 123) 13 = .ok (.ireturn, 1) := by decide +kernel
theorem d123_14 : decode (hs_code 123) 14 = .ok (.iconst 0, 1) := by decide +kernel
theorem d123_15 : decode (hs_code 123) 15 = .ok (.istore_n 2, 1) := by decide +kernel
theorem d123_16 : decode (hs_code 123) 16 = .ok (.iconst 0, 1) := by decide +kernel
theorem d123_17 : decode (hs_code 123) 17 = .ok (.istore_n 3, 1) := by decide +kernel
theorem d123_18 : decode (hs_code 123) 18 = .ok (.iload_n 3, 1) := by decide +kernel
theorem d123_19 : decode (hs_code 123) 19 = .ok (.aload_n 0, 1) := by decide +kernel
theorem d123_20 : decode (hs_code 123) 20 = .ok (.getfield 60, 3) := by decide +kernel
theorem d123_23 : decode (hs_code 123) 23 = .ok (.getfield 164, 3) := by decide +kernel
theorem d123_26 : decode (hs_code 123) 26 = .ok (.getfield 168, 3) := by decide +kernel
theorem d123_29 : decode (hs_code 123) 29 = .ok (.if_icmp .ge 46, 3) := by decide +kernel
theorem d123_32 : decode (hs_code 123) 32 = .ok (.aload_n 0, 1) := by decide +kernel
theorem d123_33 : decode (hs_code 123) 33 = .ok (.getfield 60, 3) := by decide +kernel
theorem d123_36 : decode (hs_code 123) 36 = .ok (.iload_n 1, 1) := by decide +kernel
theorem d123_37 : decode (hs_code 123) 37 = .ok (.iload_n 3, 1) := by decide +kernel
theorem d123_38 : decode (hs_code 123) 38 = .ok (.invokevirtual 235, 3) := by decide +kernel
theorem d123_41 : decode (hs_code 123) 41 = .ok (.istore 4, 2) := by decide +kernel
theorem d123_43 : decode (hs_code 123) 43 = .ok (.iload 4, 2) := by decide +kernel
theorem d123_45 : decode (hs_code 123) 45 = .ok (.iconst 3, 1) := by decide +kernel
theorem d123_46 : decode (hs_code 123) 46 = .ok (.if_icmp .eq 23, 3) := by decide +kernel
theorem d123_49 : decode (hs_code 123) 49 = .ok (.iload 4, 2) := by decide +kernel
theorem d123_51 : decode (hs_code 123) 51 = .ok (.aload_n 0, 1) := by decide +kernel
theorem d123_52 : decode (hs_code 123) 52 = .ok (.getfield 60, 3) := by decide +kernel
theorem d123_55 : decode (hs_code 123) 55 = .ok (.getfield 164, 3) := by decide +kernel
theorem d123_58 : decode (hs_code 123) 58 = .ok (.getfield 208, 3) := by decide +kernel
theorem d123_61 : decode (hs_code 123) 61 = .ok (.iload_n 3, 1) := by decide +kernel
theorem d123_62 : decode (hs_code 123) 62 = .ok (.iaload, 1) := by decide +kernel
theorem d123_63 : decode (hs_code 123) 63 = .ok (.if_icmp .eq 6, 3) := by decide +kernel
theorem d123_66 : decode (hs_code 123) 66 = .ok (.iinc 2 1, 3) := by decide +kernel
theorem d123_69 : decode (hs_code 123) 69 = .ok (.iinc 3 1, 3) := by decide +kernel
theorem d123_72 : decode (hs_code 123) 72 = .ok (.goto (-54), 3) := by decide +kernel
theorem d123_75 : decode (hs_code 123) 75 = .ok (.aload_n 0, 1) := by decide +kernel
theorem d123_76 : decode (hs_code 123) 76 = .ok (.iload_n 2, 1) := by decide +kernel
theorem d123_77 : decode (hs_code 123) 77 = .ok (.invokevirtual 173, 3) := by decide +kernel
theorem d123_80 : decode (hs_code 123) 80 = .ok (.ireturn, 1) := by decide +kernel
theorem d124_0 : decode (hs_code 124) 0 = .ok (.aload_n 0, 1) := by decide +kernel
theorem d124_1 : decode (hs_code 124) 1 = .ok (.iload_n 1, 1) := by decide +kernel
theorem d124_2 : decode (hs_code 124) 2 = .ok (.invokevirtual 232, 3) := by decide +kernel
theorem d124_5 : decode (hs_code 124) 5 = .ok (.ifCond .ne 9, 3) := by decide +kernel
theorem d124_8 : decode (hs_code 124) 8 = .ok (.aload_n 0, 1) := by decide +kernel
theorem d124_9 : decode (hs_code 124) 9 = .ok (.iconst 2, 1) := by decide +kernel
theorem d124_10 : decode (hs_code 124) 10 = .ok (.invokevirtual 120, 3) := by decide +kernel
theorem d124_13 : decode (hs_code 124) 13 = .ok (.ireturn, 1) := by decide +kernel
theorem d124_14 : decode (hs_code 124) 14 = .ok (.iconst 0, 1) := by decide +kernel
theorem d124_15 : decode (hs_code 124) 15 = .ok (.istore_n 2, 1) := by decide +kernel
theorem d124_16 : decode (hs_code 124) 16 = .ok (.iload_n 2, 1) := by decide +kernel
theorem d124_17 : decode (hs_code 124) 17 = .ok (.sipush 200, 3) := by decide +kernel
theorem d124_20 : decode (hs_code 124) 20 = .ok (.if_icmp .gt 27, 3) := by decide +kernel
theorem d124_23 : decode (hs_code 124) 23 = .ok (.aload_n 0, 1) := by decide +kernel
theorem d124_24 : decode (hs_code 124) 24 = .ok (.getfield 60, 3) := by decide +kernel
theorem d124_27 : decode (hs_code 124) 27 = .ok (.iload_n 1, 1) := by decide +kernel
theorem d124_28 : decode (hs_code 124) 28 = .ok (.iload_n 2, 1) := by decide +kernel
theorem d124_29 : decode (hs_code 124) 29 = .ok (.invokevirtual 287, 3) := by decide +kernel
theorem d124_32 : decode (hs_code 124) 32 = .ok (.ifCond .eq 9, 3) := by decide +kernel
theorem d124_35 : decode (hs_code 124) 35 = .ok (.aload_n 0, 1) := by decide +kernel
theorem d124_36 : decode (hs_code 124) 36 = .ok (.iload_n 2, 1) := by decide +kernel
theorem d124_37 : decode (hs_code 124) 37 = .ok (.invokevirtual 173, 3) := by decide +kernel
theorem d124_40 : decode (hs_code 124) 40 = .ok (.ireturn, 1) := by decide +kernel
theorem d124_41 : decode (hs_code 124) 41 = .ok (.iinc 2 1, 3) := by decide +kernel
theorem d124_44 : decode (hs_code 124) 44 = .ok (.goto (-28), 3) := by decide +kernel
theorem d124_47 : decode (hs_code 124) 47 = .ok (.aload_n 0, 1) := by decide +kernel
theorem d124_48 : decode (hs_code 124) 48 = .ok (.bipush 8, 2) := by decide +kernel
theorem d124_50 : decode (hs_code 124) 50 = .ok (.invokevirtual 120, 3) := by decide +kernel
theorem d124_53 : decode (hs_code 124) 53 = .ok (.ireturn, 1) := by decide +kernel
theorem d125_0 : decode (hs_code 125) 0 = .ok (.aload_n 0, 1) := by decide +kernel
theorem d125_1 : decode (hs_code 125) 1 = .ok (.iload_n 1, 1) := by decide +kernel
theorem d125_2 : decode (hs_code 125) 2 = .ok (.invokevirtual 232, 3) := by decide +kernel
theorem d125_5 : decode (hs_code 125) 5 = .ok (.ifCond .eq 18, 3) := by decide +kernel
theorem d125_8 : decode (hs_code 125) 8 = .ok (.aload_n 0, 1) := by decide +kernel
theorem d125_9 : decode (hs_code 125) 9 = .ok (.aload_n 0, 1) := by decide +kernel
theorem d125_10 : decode (hs_code 125) 10 = .ok (.getfield 60, 3) := by decide +kernel
theorem d125_13 : decode (hs_code 125) 13 = .ok (.iload_n 1, 1) := by decide +kernel
theorem d125_14 : decode (hs_code 125) 14 = .ok (.invokevirtual 293, 3) := by decide +kernel
theorem d125_17 : decode (hs_code 125) 17 = .ok (.invokevirtual 173, 3) := by decide +kernel
theorem d125_20 : decode (hs_code 125) 20 = .ok (.goto 8, 3) := by decide +kernel
theorem d125_23 : decode (hs_code 125) 23 = .ok (.aload_n 0, 1) := by decide +kernel
theorem d125_24 : decode (hs_code 125) 24 = .ok (.iconst 2, 1) := by decide +kernel
theorem d125_25 : decode (hs_code 125) 25 = .ok (.invokevirtual 120, 3) := by decide +kernel
theorem d125_28 : decode (hs_code 125) 28 = .ok (.ireturn, 1) := by decide +kernel
theorem d127_0 : decode (hs_code 127) 0 = .ok (.iload_n 1, 1) := by decide +kernel
theorem d127_1 : decode (hs_code 127) 1 = .ok (.ifCond .lt 8, 3) := by decide +kernel
theorem d127_4 : decode (hs_code 127) 4 = .ok (.iload_n 1, 1) := by decide +kernel
theorem d127_5 : decode (hs_code 127) 5 = .ok (.iconst 4, 1) := by decide +kernel
theorem d127_6 : decode (hs_code 127) 6 = .ok (.if_icmp .le 11, 3) := by decide +kernel
theorem d127_9 : decode (hs_code 127) 9 = .ok (.aload_n 0, 1) := by decide +kernel
theorem d127_10 : decode (hs_code 127) 10 = .ok (.iconst 5, 1) := by decide +kernel
theorem d127_11 : decode (hs_code 127) 11 = .ok (.invokevirtual 120, 3) := by decide +kernel
theorem d127_14 : decode (hs_code 127) 14 = .ok (.goto 18, 3) := by decide +kernel
theorem d127_17 : decode (hs_code 127) 17 = .ok (.aload_n 0, 1) := by decide +kernel
theorem d127_18 : decode (hs_code 127) 18 = .ok (.aload_n 0, 1) := by decide +kernel
theorem d127_19 : decode (hs_code 127) 19 = .ok (.getfield 60, 3) := by decide +kernel
theorem d127_22 : decode (hs_code 127) 22 = .ok (.getfield 164, 3) := by decide +kernel
theorem d127_25 : decode (hs_code 127) 25 = .ok (.iload_n 1, 1) := by decide +kernel
theorem d127_26 : decode (hs_code 127) 26 = .ok (.invokevirtual 296, 3) := by decide +kernel
theorem d127_29 : decode (hs_code 127) 29 = .ok (.invokevirtual 173, 3) := by decide +kernel
theorem d127_32 : decode (hs_code 127) 32 = .ok (.ireturn, 1) := by decide +kernel
theorem d130_0 : decode (hs_code 130) 0 = .ok (.aload_n 0, 1) := by decide +kernel
theorem d130_1 : decode (hs_code 130) 1 = .ok (.iload_n 1, 1) := by decide +kernel
theorem d130_2 : decode (hs_code 130) 2 = .ok (.invokevirtual 232, 3) := by decide +kernel
theorem d130_5 : decode (hs_code 130) 5 = .ok (.ifCond .eq 11, 3) := by decide +kernel
theorem d130_8 : decode (hs_code 130) 8 = .ok (.aload_n 0, 1) := by decide +kernel
theorem d130_9 : decode (hs_code 130) 9 = .ok (.iload_n 2, 1) := by decide +kernel
theorem d130_10 : decode (hs_code 130) 10 = .ok (.invokevirtual 232, 3) := by decide +kernel
theorem d130_13 : decode (hs_code 130) 13 = .ok (.ifCond .ne 9, 3) := by decide +kernel
theorem d130_16 : decode (hs_code 130) 16 = .ok (.aload_n 0, 1) := by decide +kernel
theorem d130_17 : decode (hs_code 130) 17 = .ok (.iconst 2, 1) := by decide +kernel
theorem d130_18 : decode (hs_code 130) 18 = .ok (.invokevirtual 120, 3) := by decide +kernel
theorem d130_21 : decode (hs_code 130) 21 = .ok (.ireturn, 1) := by decide +kernel
theorem d130_22 : decode (hs_code 130) 22 = .ok (.iconst 0, 1) := by decide +kernel
theorem d130_23 : decode (hs_code 130) 23 = .ok (.istore_n 3, 1) := by decide +kernel
theorem d130_24 : decode (hs_code 130) 24 = .ok (.iload_n 3, 1) := by decide +kernel
theorem d130_25 : decode (hs_code 130) 25 = .ok (.aload_n 0, 1) := by decide +kernel
theorem d130_26 : decode (hs_code 130) 26 = .ok (.getfield 60, 3) := by decide +kernel
theorem d130_29 : decode (hs_code 130) 29 = .ok (.getfield 164, 3) := by decide +kernel
theorem d130_32 : decode (hs_code 130) 32 = .ok (.getfield 168, 3) := by decide +kernel
theorem d130_35 : decode (hs_code 130) 35 = .ok (.if_icmp .ge 56, 3) := by decide +kernel
theorem d130_38 : decode (hs_code 130) 38 = .ok (.aload_n 0, 1) := by decide +kernel
theorem d130_39 : decode (hs_code 130) 39 = .ok (.getfield 60, 3) := by decide +kernel
theorem d130_42 : decode (hs_code 130) 42 = .ok (.iload_n 1, 1) := by decide +kernel
theorem d130_43 : decode (hs_code 130) 43 = .ok (.iload_n 3, 1) := by decide +kernel
theorem d130_44 : decode (hs_code 130) 44 = .ok (.invokevirtual 235, 3) := by decide +kernel
theorem d130_47 : decode (hs_code 130) 47 = .ok (.istore 4, 2) := by decide +kernel
theorem d130_49 : decode (hs_code 130) 49 = .ok (.aload_n 0, 1) := by decide +kernel
theorem d130_50 : decode (hs_code 130) 50 = .ok (.getfield 60, 3) := by decide +kernel
theorem d130_53 : decode (hs_code 130) 53 = .ok (.iload_n 2, 1) := by decide +kernel
theorem d130_54 : decode (hs_code 130) 54 = .ok (.iload_n 3, 1) := by decide +kernel
theorem d130_55 : decode (hs_code 130) 55 = .ok (.invokevirtual 235, 3) := by decide +kernel
theorem d130_58 : decode (hs_code 130) 58 = .ok (.istore 5, 2) := by decide +kernel
theorem d130_60 : decode (hs_code 130) 60 = .ok (.iload 4, 2) := by decide +kernel
theorem d130_62 : decode (hs_code 130) 62 = .ok (.iload 5, 2) := by decide +kernel
theorem d130_64 : decode (hs_code 130) 64 = .ok (.if_icmp .eq 21, 3) := by decide +kernel
theorem d130_67 : decode (hs_code 130) 67 = .ok (.iload 4, 2) := by decide +kernel
theorem d130_69 : decode (hs_code 130) 69 = .ok (.iconst 3, 1) := by decide +kernel
theorem d130_70 : decode (hs_code 130) 70 = .ok (.if_icmp .eq 15, 3) := by decide +kernel
theorem d130_73 : decode (hs_code 130) 73 = .ok (.iload 5, 2) := by decide +kernel
theorem d130_75 : decode (hs_code 130) 75 = .ok (.iconst 3, 1) := by decide +kernel
theorem d130_76 : decode (hs_code 130) 76 = .ok (.if_icmp .eq 9, 3) := by decide +kernel
theorem d130_79 : decode (hs_code 130) 79 = .ok (.aload_n 0, 1) := by decide +kernel
theorem d130_80 : decode (hs_code 130) 80 = .ok (.iconst 0, 1) := by decide +kernel
theorem d130_81 : decode (hs_code 130) 81 = .ok (.invokevirtual 173, 3) := by decide +kernel
theorem d130_84 : decode (hs_code 130) 84 = .ok (.ireturn, 1) := by decide +kernel
theorem d130_85 : decode (hs_code 130) 85 = .ok (.iinc 3 1, 3) := by decide +kernel
theorem d130_88 : decode (hs_code 130) 88 = .ok (.goto (-64), 3) := by decide +kernel
theorem d130_91 : decode (hs_code 130) 91 = .ok (.aload_n 0, 1) := by decide +kernel
theorem d130_92 : decode (hs_code 130) 92 = .ok (.iconst 1, 1) := by decide +kernel
theorem d130_93 : decode (hs_code 130) 93 = .ok (.invokevirtual 173, 3) := by decide +kernel
theorem d130_96 : decode (hs_code 130) 96 = .ok (.ireturn, 1) := by decide +kernel
theorem d131_0 : decode (hs_code 131) 0 = .ok (.aload_n 0, 1) := by decide +kernel
theorem d131_1 : decode (hs_code 131) 1 = .ok (.iload_n 1, 1) := by decide +kernel
theorem d131_2 : decode (hs_code 131) 2 = .ok (.iload_n 2, 1) := by decide +kernel
theorem d131_3 : decode (hs_code 131) 3 = .ok (.iconst 0, 1) := by decide +kernel
theorem d131_4 : decode (hs_code 131) 4 = .ok (.sipush 200, 3) := by decide +kernel
theorem d131_7 : decode (hs_code 131) 7 = .ok (.invokevirtual 258, 3) := by decide +kernel
theorem d131_10 : decode (hs_code 131) 10 = .ok (.istore_n 3, 1) := by decide +kernel
theorem d131_11 : decode (hs_code 131) 11 = .ok (.iload_n 3, 1) := by decide +kernel
theorem d131_12 : decode (hs_code 131) 12 = .ok (.ifCond .eq 11, 3) := by decide +kernel
theorem d131_15 : decode (hs_code 131) 15 = .ok (.aload_n 0, 1) := by decide +kernel
theorem d131_16 : decode (hs_code 131) 16 = .ok (.iload_n 3, 1) := by decide +kernel
theorem d131_17 : decode (hs_code 131) 17 = .ok (.invokevirtual 120, 3) := by decide +kernel
theorem d131_20 : decode (hs_code 131) 20 = .ok (.goto 16, 3) := by decide +kernel
theorem d131_23 : decode (hs_code 131) 23 = .ok (.aload_n 0, 1) := by decide +kernel
theorem d131_24 : decode (hs_code 131) 24 = .ok (.aload_n 0, 1) := by decide +kernel
theorem d131_25 : decode (hs_code 131) 25 = .ok (.getfield 60, 3) := by decide +kernel
theorem d131_28 : decode (hs_code 131) 28 = .ok (.iload_n 1, 1) := by decide +kernel
theorem d131_29 : decode (hs_code 131) 29 = .ok (.iload_n 2, 1) := by decide +kernel
theorem d131_30 : decode (hs_code 131) 30 = .ok (.invokevirtual 299, 3) := by decide +kernel
theorem d131_33 : decode (hs_code 131) 33 = .ok (.invokevirtual 173, 3) := by decide +kernel
theorem d131_36 : decode (hs_code 131) 36 = .ok (.ireturn, 1) := by decide +kernel
theorem d134_0 : decode (hs_code 134) 0 = .ok (.aload_n 0, 1) := by decide +kernel
theorem d134_1 : decode (hs_code 134) 1 = .ok (.iload_n 1, 1) := by decide +kernel
theorem d134_2 : decode (hs_code 134) 2 = .ok (.iload_n 2, 1) := by decide +kernel
theorem d134_3 : decode (hs_code 134) 3 = .ok (.iconst 0, 1) := by decide +kernel
theorem d134_4 : decode (hs_code 134) 4 = .ok (.sipush 200, 3) := by decide +kernel
theorem d134_7 : decode (hs_code 134) 7 = .ok (.invokevirtual 258, 3) := by decide +kernel
theorem d134_10 : decode (hs_code 134) 10 = .ok (.istore_n 3, 1) := by decide +kernel
theorem d134_11 : decode (hs_code 134) 11 = .ok (.iload_n 3, 1) := by decide +kernel
theorem d134_12 : decode (hs_code 134) 12 = .ok (.ifCond .eq 11, 3) := by decide +kernel
theorem d134_15 : decode (hs_code 134) 15 = .ok (.aload_n 0, 1) := by decide +kernel
theorem d134_16 : decode (hs_code 134) 16 = .ok (.iload_n 3, 1) := by decide +kernel
theorem d134_17 : decode (hs_code 134) 17 = .ok (.invokevirtual 120, 3) := by decide +kernel
theorem d134_20 : decode (hs_code 134) 20 = .ok (.goto 26, 3) := by decide +kernel
theorem d134_23 : decode (hs_code 134) 23 = .ok (.aload_n 0, 1) := by decide +kernel
theorem d134_24 : decode (hs_code 134) 24 = .ok (.aload_n 0, 1) := by decide +kernel
theorem d134_25 : decode (hs_code 134) 25 = .ok (.getfield 60, 3) := by decide +kernel
theorem d134_28 : decode (hs_code 134) 28 = .ok (.getfield 164, 3) := by decide +kernel
theorem d134_31 : decode (hs_code 134) 31 = .ok (.iload_n 1, 1) := by decide +kernel
theorem d134_32 : decode (hs_code 134) 32 = .ok (.iload_n 2, 1) := by decide +kernel
theorem d134_33 : decode (hs_code 134) 33 = .ok (.aload_n 0, 1) := by decide +kernel
theorem d134_34 : decode (hs_code 134) 34 = .ok (.getfield 60, 3) := by decide +kernel
theorem d134_37 : decode (hs_code 134) 37 = .ok (.getfield 302, 3) := by decide +kernel
theorem d134_40 : decode (hs_code 134) 40 = .ok (.invokevirtual 306, 3) := by decide +kernel
theorem d134_43 : decode (hs_code 134) 43 = .ok (.invokevirtual 173, 3) := by decide +kernel
theorem d134_46 : decode (hs_code 134) 46 = .ok (.ireturn, 1) := by decide +kernel
theorem d135_0 : decode (hs_code 135) 0 = .ok (.aload_n 0, 1) := by decide +kernel
theorem d135_1 : decode (hs_code 135) 1 = .ok (.iload_n 1, 1) := by decide +kernel
theorem d135_2 : decode (hs_code 135) 2 = .ok (.iload_n 2, 1) := by decide +kernel
theorem d135_3 : decode (hs_code 135) 3 = .ok (.iconst 0, 1) := by decide +kernel
theorem d135_4 : decode (hs_code 135) 4 = .ok (.bipush 99, 2) := by decide +kernel
theorem d135_6 : decode (hs_code 135) 6 = .ok (.invokevirtual 258, 3) := by decide +kernel
theorem d135_9 : decode (hs_code 135) 9 = .ok (.istore_n 3, 1) := by decide +kernel
theorem d135_10 : decode (hs_code 135) 10 = .ok (.iload_n 3, 1) := by decide +kernel
theorem d135_11 : decode (hs_code 135) 11 = .ok (.ifCond .eq 9, 3) := by decide +kernel
theorem d135_14 : decode (hs_code 135) 14 = .ok (.aload_n 0, 1) := by decide +kernel
theorem d135_15 : decode (hs_code 135) 15 = .ok (.iload_n 3, 1) := by decide +kernel
theorem d135_16 : decode (hs_code 135) 16 = .ok (.invokevirtual 120, 3) := by decide +kernel
theorem d135_19 : decode (hs_code 135) 19 = .ok (.ireturn, 1) := by decide +kernel
theorem d135_20 : decode (hs_code 135) 20 = .ok (.iconst 0, 1) := by decide +kernel
theorem d135_21 : decode (hs_code 135) 21 = .ok (.istore 4, 2) := by decide +kernel
theorem d135_23 : decode (hs_code 135) 23 = .ok (.iload 4, 2) := by decide +kernel
theorem d135_25 : decode (hs_code 135) 25 = .ok (.sipush 200, 3) := by decide +kernel
theorem d135_28 : decode (hs_code 135) 28 = .ok (.if_icmp .gt 30, 3) := by decide +kernel
theorem d135_31 : decode (hs_code 135) 31 = .ok (.aload_n 0, 1) := by decide +kernel
theorem d135_32 : decode (hs_code 135) 32 = .ok (.getfield 60, 3) := by decide +kernel
theorem d135_35 : decode (hs_code 135) 35 = .ok (.iload_n 1, 1) := by decide +kernel
theorem d135_36 : decode (hs_code 135) 36 = .ok (.iload 4, 2) := by decide +kernel
theorem d135_38 : decode (hs_code 135) 38 = .ok (.invokevirtual 299, 3) := by decide +kernel
theorem d135_41 : decode (hs_code 135) 41 = .ok (.iload_n 2, 1) := by decide +kernel
theorem d135_42 : decode (hs_code 135) 42 = .ok (.if_icmp .lt 10, 3) := by decide +kernel
theorem d135_45 : decode (hs_code 135) 45 = .ok (.aload_n 0, 1) := by decide +kernel
theorem d135_46 : decode (hs_code 135) 46 = .ok (.iload 4, 2) := by decide +kernel
theorem d135_48 : decode (hs_code 135) 48 = .ok (.invokevirtual 173, 3) := by decide +kernel
theorem d135_51 : decode (hs_code 135) 51 = .ok (.ireturn, 1) := by decide +kernel
theorem d135_52 : decode (hs_code 135) 52 = .ok (.iinc 4 1, 3) := by decide +kernel
theorem d135_55 : decode (hs_code 135) 55 = .ok (.goto (-32), 3) := by decide +kernel
theorem d135_58 : decode (hs_code 135) 58 = .ok (.aload_n 0, 1) := by decide +kernel
theorem d135_59 : decode (hs_code 135) 59 = .ok (.bipush 8, 2) := by decide +kernel
theorem d135_61 : decode (hs_code 135) 61 = .ok (.invokevirtual 120, 3) := by decide +kernel
theorem d135_64 : decode (hs_code 135) 64 = .ok (.ireturn, 1) := by decide +kernel
theorem d136_0 : decode (hs_code 136) 0 = .ok (.iconst 0, 1) := by decide +kernel
theorem d136_1 : decode (hs_code 136) 1 = .ok (.istore_n 1, 1) := by decide +kernel
theorem d136_2 : decode (hs_code 136) 2 = .ok (.iload_n 1, 1) := by decide +kernel
theorem d136_3 : decode (hs_code 136) 3 = .ok (.sipush 200, 3) := by decide +kernel
theorem d136_6 : decode (hs_code 136) 6 = .ok (.if_icmp .gt 36, 3) := by decide +kernel
theorem d136_9 : decode (hs_code 136) 9 = .ok (.aload_n 0, 1) := by decide +kernel
theorem d136_10 : decode (hs_code 136) 10 = .ok (.getfield 60, 3) := by decide +kernel
theorem d136_13 : decode (hs_code 136) 13 = .ok (.getfield 164, 3) := by decide +kernel
theorem d136_16 : decode (hs_code 136) 16 = .ok (.iload_n 1, 1) := by decide +kernel
theorem d136_17 : decode (hs_code 136) 17 = .ok (.aload_n 0, 1) := by decide +kernel
theorem d136_18 : decode (hs_code 136) 18 = .ok (.getfield 60, 3) := by decide +kernel
theorem d136_21 : decode (hs_code 136) 21 = .ok (.getfield 302, 3) := by decide +kernel
theorem d136_24 : decode (hs_code 136) 24 = .ok (.invokevirtual 310, 3) := by decide +kernel
theorem d136_27 : decode (hs_code 136) 27 = .ok (.ifCond .eq 9, 3) := by decide +kernel
theorem d136_30 : decode (hs_code 136) 30 = .ok (.aload_n 0, 1) := by decide +kernel
theorem d136_31 : decode (hs_code 136) 31 = .ok (.iload_n 1, 1) := by decide +kernel
theorem d136_32 : decode (hs_code 136) 32 = .ok (.invokevirtual 173, 3) := by decide +kernel
theorem d136_35 : decode (hs_code 136) 35 = .ok (.ireturn, 1) := by decide +kernel
theorem d136_36 : decode (hs_code 136) 36 = .ok (.iinc 1 1, 3) := by decide +kernel
theorem d136_39 : decode (hs_code 136) 39 = .ok (.goto (-37), 3) := by decide +kernel
theorem d136_42 : decode (hs_code 136) 42 = .ok (.aload_n 0, 1) := by decide +kernel
theorem d136_43 : decode (hs_code 136) 43 = .ok (.bipush 8, 2) := by decide +kernel
theorem d136_45 : decode (hs_code 136) 45 = .ok (.invokevirtual 120, 3) := by decide +kernel
theorem d136_48 : decode (hs_code 136) 48 = .ok (.ireturn, 1) := by decide +kernel
theorem d138_0 : decode (hs_code 138) 0 = .ok (.iload_n 1, 1) := by decide +kernel
theorem d138_1 : decode (hs_code 138) 1 = .ok (.ifCond .lt 10, 3) := by decide +kernel
theorem d138_4 : decode (hs_code 138) 4 = .ok (.iload_n 1, 1) := by decide +kernel
theorem d138_5 : decode (hs_code 138) 5 = .ok (.sipush 999, 3) := by decide +kernel
theorem d138_8 : decode (hs_code 138) 8 = .ok (.if_icmp .le 9, 3) := by decide +kernel
theorem d138_11 : decode (hs_code 138) 11 = .ok (.aload_n 0, 1) := by decide +kernel
theorem d138_12 : decode (hs_code 138) 12 = .ok (.iconst 5, 1) := by decide +kernel
theorem d138_13 : decode (hs_code 138) 13 = .ok (.invokevirtual 120, 3) := by decide +kernel
theorem d138_16 : decode (hs_code 138) 16 = .ok (.ireturn, 1) := by decide +kernel
theorem d138_17 : decode (hs_code 138) 17 = .ok (.aload_n 0, 1) := by decide +kernel
theorem d138_18 : decode (hs_code 138) 18 = .ok (.aload_n 0, 1) := by decide +kernel
theorem d138_19 : decode (hs_code 138) 19 = .ok (.getfield 60, 3) := by decide +kernel
theorem d138_22 : decode (hs_code 138) 22 = .ok (.iload_n 1, 1) := by decide +kernel
theorem d138_23 : decode (hs_code 138) 23 = .ok (.invokevirtual 314, 3) := by decide +kernel
theorem d138_26 : decode (hs_code 138) 26 = .ok (.invokestatic 317, 3) := by decide +kernel
theorem d138_29 : decode (hs_code 138) 29 = .ok (.invokevirtual 173, 3) := by decide +kernel
theorem d138_32 : decode (hs_code 138) 32 = .ok (.ireturn, 1) := by decide +kernel
theorem d140_0 : decode (hs_code 140) 0 = .ok (.aload_n 0, 1) := by decide +kernel
theorem d140_1 : decode (hs_code 140) 1 = .ok (.iload_n 1, 1) := by decide +kernel
theorem d140_2 : decode (hs_code 140) 2 = .ok (.iload_n 2, 1) := by decide +kernel
theorem d140_3 : decode (hs_code 140) 3 = .ok (.invokevirtual 262, 3) := by decide +kernel
theorem d140_6 : decode (hs_code 140) 6 = .ok (.istore_n 3, 1) := by decide +kernel
theorem d140_7 : decode (hs_code 140) 7 = .ok (.iload_n 3, 1) := by decide +kernel
theorem d140_8 : decode (hs_code 140) 8 = .ok (.ifCond .eq 11, 3) := by decide +kernel
theorem d140_11 : decode (hs_code 140) 11 = .ok (.aload_n 0, 1) := by decide +kernel
theorem d140_12 : decode (hs_code 140) 12 = .ok (.iload_n 3, 1) := by decide +kernel
theorem d140_13 : decode (hs_code 140) 13 = .ok (.invokevirtual 120, 3) := by decide +kernel
theorem d140_16 : decode (hs_code 140) 16 = .ok (.goto 16, 3) := by decide +kernel
theorem d140_19 : decode (hs_code 140) 19 = .ok (.aload_n 0, 1) := by decide +kernel
theorem d140_20 : decode (hs_code 140) 20 = .ok (.aload_n 0, 1) := by decide +kernel
theorem d140_21 : decode (hs_code 140) 21 = .ok (.getfield 60, 3) := by decide +kernel
theorem d140_24 : decode (hs_code 140) 24 = .ok (.iload_n 1, 1) := by decide +kernel
theorem d140_25 : decode (hs_code 140) 25 = .ok (.iload_n 2, 1) := by decide +kernel
theorem d140_26 : decode (hs_code 140) 26 = .ok (.invokevirtual 268, 3) := by decide +kernel
theorem d140_29 : decode (hs_code 140) 29 = .ok (.invokevirtual 173, 3) := by decide +kernel
theorem d140_32 : decode (hs_code 140) 32 = .ok (.ireturn, 1) := by decide +kernel
theorem d141_0 : decode (hs_code 141) 0 = .ok (.aload_n 0, 1) := by decide +kernel
theorem d141_1 : decode (hs_code 141) 1 = .ok (.iload_n 1, 1) := by decide +kernel
theorem d141_2 : decode (hs_code 141) 2 = .ok (.invokevirtual 199, 3) := by decide +kernel
theorem d141_5 : decode (hs_code 141) 5 = .ok (.ifCond .ne 9, 3) := by decide +kernel
theorem d141_8 : decode (hs_code 141) 8 = .ok (.aload_n 0, 1) := by decide +kernel
theorem d141_9 : decode (hs_code 141) 9 = .ok (.iconst 2, 1) := by decide +kernel
theorem d141_10 : decode (hs_code 141) 10 = .ok (.invokevirtual 120, 3) := by decide +kernel
theorem d141_13 : decode (hs_code 141) 13 = .ok (.ireturn, 1) := by decide +kernel
theorem d141_14 : decode (hs_code 141) 14 = .ok (.iconst 0, 1) := by decide +kernel
theorem d141_15 : decode (hs_code 141) 15 = .ok (.istore_n 2, 1) := by decide +kernel
theorem d141_16 : decode (hs_code 141) 16 = .ok (.iload_n 2, 1) := by decide +kernel
theorem d141_17 : decode (hs_code 141) 17 = .ok (.aload_n 0, 1) := by decide +kernel
theorem d141_18 : decode (hs_code 141) 18 = .ok (.getfield 60, 3) := by decide +kernel
theorem d141_21 : decode (hs_code 141) 21 = .ok (.getfield 164, 3) := by decide +kernel
theorem d141_24 : decode (hs_code 141) 24 = .ok (.getfield 202, 3) := by decide +kernel
theorem d141_27 : decode (hs_code 141) 27 = .ok (.iload_n 1, 1) := by decide +kernel
theorem d141_28 : decode (hs_code 141) 28 = .ok (.iaload, 1) := by decide +kernel
theorem d141_29 : decode (hs_code 141) 29 = .ok (.if_icmp .ge 27, 3) := by decide +kernel
theorem d141_32 : decode (hs_code 141) 32 = .ok (.aload_n 0, 1) := by decide +kernel
theorem d141_33 : decode (hs_code 141) 33 = .ok (.getfield 60, 3) := by decide +kernel
theorem d141_36 : decode (hs_code 141) 36 = .ok (.iload_n 1, 1) := by decide +kernel
theorem d141_37 : decode (hs_code 141) 37 = .ok (.iload_n 2, 1) := by decide +kernel
theorem d141_38 : decode (hs_code 141) 38 = .ok (.invokevirtual 268, 3) := by decide +kernel
theorem d141_41 : decode (hs_code 141) 41 = .ok (.ifCond .le 9, 3) := by decide +kernel
theorem d141_44 : decode (hs_code 141) 44 = .ok (.aload_n 0, 1) := by decide +kernel
theorem d141_45 : decode (hs_code 141) 45 = .ok (.iload_n 2, 1) := by decide +kernel
theorem d141_46 : decode (hs_code 141) 46 = .ok (.invokevirtual 173, 3) := by decide +kernel
theorem d141_49 : decode (hs_code 141) 49 = .ok (.ireturn, 1) := by decide +kernel
theorem d141_50 : decode (hs_code 141) 50 = .ok (.iinc 2 1, 3) := by decide +kernel
theorem d141_53 : decode (hs_code 141) 53 = .ok (.goto (-37), 3) := by decide +kernel
theorem d141_56 : decode (hs_code 141) 56 = .ok (.aload_n 0, 1) := by decide +kernel
theorem d141_57 : decode (hs_code 141) 57 = .ok (.bipush 8, 2) := by decide +kernel
theorem d141_59 : decode (hs_code 141) 59 = .ok (.invokevirtual 120, 3) := by decide +kernel
theorem d141_62 : decode (hs_code 141) 62 = .ok (.ireturn, 1) := by decide +kernel
theorem d142_0 : decode (hs_code 142) 0 = .ok (.iload_n 1, 1) := by decide +kernel
theorem d142_1 : decode (hs_code 142) 1 = .ok (.ifCond .lt 10, 3) := by decide +kernel
theorem d142_4 : decode (hs_code 142) 4 = .ok (.iload_n 1, 1) := by decide +kernel
theorem d142_5 : decode (hs_code 142) 5 = .ok (.sipush 999, 3) := by decide +kernel
theorem d142_8 : decode (hs_code 142) 8 = .ok (.if_icmp .le 9, 3) := by decide +kernel
theorem d142_11 : decode (hs_code 142) 11 = .ok (.aload_n 0, 1) := by decide +kernel
theorem d142_12 : decode (hs_code 142) 12 = .ok (.iconst 5, 1) := by decide +kernel
theorem d142_13 : decode (hs_code 142) 13 = .ok (.invokevirtual 120, 3) := by decide +kernel
theorem d142_16 : decode (hs_code 142) 16 = .ok (.ireturn, 1) := by decide +kernel
theorem d142_17 : decode (hs_code 142) 17 = .ok (.aload_n 0, 1) := by decide +kernel
theorem d142_18 : decode (hs_code 142) 18 = .ok (.aload_n 0, 1) := by decide +kernel
theorem d142_19 : decode (hs_code 142) 19 = .ok (.iload_n 1, 1) := by decide +kernel
theorem d142_20 : decode (hs_code 142) 20 = .ok (.invokevirtual 322, 3) := by decide +kernel
theorem d142_23 : decode (hs_code 142) 23 = .ok (.invokestatic 317, 3) := by decide +kernel
theorem d142_26 : decode (hs_code 142) 26 = .ok (.invokevirtual 173, 3) := by decide +kernel
theorem d142_29 : decode (hs_code 142) 29 = .ok (.ireturn, 1) := by decide +kernel
theorem d143_0 : decode (hs_code 143) 0 = .ok (.aload_n 0, 1) := by decide +kernel
theorem d143_1 : decode (hs_code 143) 1 = .ok (.invokevirtual 405, 3) := by decide +kernel
theorem d143_4 : decode (hs_code 143) 4 = .ok (.istore_n 2, 1) := by decide +kernel
theorem d143_5 : decode (hs_code 143) 5 = .ok (.aload_n 0, 1) := by decide +kernel
theorem d143_6 : decode (hs_code 143) 6 = .ok (.getfield 60, 3) := by decide +kernel
theorem d143_9 : decode (hs_code 143) 9 = .ok (.getfield 164, 3) := by decide +kernel
theorem d143_12 : decode (hs_code 143) 12 = .ok (.invokevirtual 250, 3) := by decide +kernel
theorem d143_15 : decode (hs_code 143) 15 = .ok (.iload_n 1, 1) := by decide +kernel
theorem d143_16 : decode (hs_code 143) 16 = .ok (.isub, 1) := by decide +kernel
theorem d143_17 : decode (hs_code 143) 17 = .ok (.istore_n 3, 1) := by decide +kernel
theorem d143_18 : decode (hs_code 143) 18 = .ok (.iload_n 2, 1) := by decide +kernel
theorem d143_19 : decode (hs_code 143) 19 = .ok (.iconst 1, 1) := by decide +kernel
theorem d143_20 : decode (hs_code 143) 20 = .ok (.isub, 1) := by decide +kernel
theorem d143_21 : decode (hs_code 143) 21 = .ok (.istore 4, 2) := by decide +kernel
theorem d143_23 : decode (hs_code 143) 23 = .ok (.iload_n 2, 1) := by decide +kernel
theorem d143_24 : decode (hs_code 143) 24 = .ok (.iconst 1, 1) := by decide +kernel
theorem d143_25 : decode (hs_code 143) 25 = .ok (.isub, 1) := by decide +kernel
theorem d143_26 : decode (hs_code 143) 26 = .ok (.istore 5, 2) := by decide +kernel
theorem d143_28 : decode (hs_code 143) 28 = .ok (.iload 5, 2) := by decide +kernel
theorem d143_30 : decode (hs_code 143) 30 = .ok (.ifCond .lt 37, 3) := by decide +kernel
theorem d143_33 : decode (hs_code 143) 33 = .ok (.aload_n 0, 1) := by decide +kernel
theorem d143_34 : decode (hs_code 143) 34 = .ok (.getfield 55, 3) := by decide +kernel
theorem d143_37 : decode (hs_code 143) 37 = .ok (.iload 5, 2) := by decide +kernel
theorem d143_39 : decode (hs_code 143) 39 = .ok (.iaload, 1) := by decide +kernel
theorem d143_40 : decode (hs_code 143) 40 = .ok (.iload_n 3, 1) := by decide +kernel
theorem d143_41 : decode (hs_code 143) 41 = .ok (.if_icmp .lt 20, 3) := by decide +kernel
theorem d143_44 : decode (hs_code 143) 44 = .ok (.iload 5, 2) := by decide +kernel
theorem d143_46 : decode (hs_code 143) 46 = .ok (.invokestatic 317, 3) := by decide +kernel
theorem d143_49 : decode (hs_code 143) 49 = .ok (.iload 4, 2) := by decide +kernel
theorem d143_51 : decode (hs_code 143) 51 = .ok (.invokestatic 317, 3) := by decide +kernel
theorem d143_54 : decode (hs_code 143) 54 = .ok (.if_icmp .gt 7, 3) := by decide +kernel
theorem d143_57 : decode (hs_code 143) 57 = .ok (.iload 5, 2) := by decide +kernel
theorem d143_59 : decode (hs_code 143) 59 = .ok (.istore 4, 2) := by decide +kernel
theorem d143_61 : decode (hs_code 143) 61 = .ok (.iinc 5 (-1), 3) := by decide +kernel
theorem d143_64 : decode (hs_code 143) 64 = .ok (.goto (-36), 3) := by decide +kernel
theorem d143_67 : decode (hs_code 143) 67 = .ok (.iload 4, 2) := by decide +kernel
theorem d143_69 : decode (hs_code 143) 69 = .ok (.ireturn, 1) := by decide +kernel
theorem d144_0 : decode (hs_code 144) 0 = .ok (.aload_n 0, 1) := by decide +kernel
theorem d144_1 : decode (hs_code 144) 1 = .ok (.getfield 60, 3) := by decide +kernel
theorem d144_4 : decode (hs_code 144) 4 = .ok (.getfield 164, 3) := by decide +kernel
theorem d144_7 : decode (hs_code 144) 7 = .ok (.astore_n 1, 1) := by decide +kernel
theorem d144_8 : decode (hs_code 144) 8 = .ok (.iconst 1, 1) := by decide +kernel
theorem d144_9 : decode (hs_code 144) 9 = .ok (.aload_n 1, 1) := by decide +kernel
theorem d144_10 : decode (hs_code 144) 10 = .ok (.getfield 168, 3) := by decide +kernel
theorem d144_13 : decode (hs_code 144) 13 = .ok (.ishl, 1) := by decide +kernel
theorem d144_14 : decode (hs_code 144) 14 = .ok (.istore_n 2, 1) := by decide +kernel
theorem d144_15 : decode (hs_code 144) 15 = .ok (.aload_n 0, 1) := by decide +kernel
theorem d144_16 : decode (hs_code 144) 16 = .ok (.getfield 55, 3) := by decide +kernel
theorem d144_19 : decode (hs_code 144) 19 = .ok (.iconst 0, 1) := by decide +kernel
theorem d144_20 : decode (hs_code 144) 20 = .ok (.iconst 0, 1) := by decide +kernel
theorem d144_21 : decode (hs_code 144) 21 = .ok (.iastore, 1) := by decide +kernel
theorem d144_22 : decode (hs_code 144) 22 = .ok (.iconst 0, 1) := by decide +kernel
theorem d144_23 : decode (hs_code 144) 23 = .ok (.istore_n 3, 1) := by decide +kernel
theorem d144_24 : decode (hs_code 144) 24 = .ok (.iload_n 3, 1) := by decide +kernel
theorem d144_25 : decode (hs_code 144) 25 = .ok (.aload_n 1, 1) := by decide +kernel
theorem d144_26 : decode (hs_code 144) 26 = .ok (.getfield 168, 3) := by decide +kernel
theorem d144_29 : decode (hs_code 144) 29 = .ok (.if_icmp .ge 54, 3) := by decide +kernel
theorem d144_32 : decode (hs_code 144) 32 = .ok (.iconst 1, 1) := by decide +kernel
theorem d144_33 : decode (hs_code 144) 33 = .ok (.iload_n 3, 1) := by decide +kernel
theorem d144_34 : decode (hs_code 144) 34 = .ok (.ishl, 1) := by decide +kernel
theorem d144_35 : decode (hs_code 144) 35 = .ok (.istore 4, 2) := by decide +kernel
theorem d144_37 : decode (hs_code 144) 37 = .ok (.iconst 0, 1) := by decide +kernel
theorem d144_38 : decode (hs_code 144) 38 = .ok (.istore 5, 2) := by decide +kernel
theorem d144_40 : decode (hs_code 144) 40 = .ok (.iload 5, 2) := by decide +kernel
theorem d144_42 : decode (hs_code 144) 42 = .ok (.iload 4, 2) := by decide +kernel
theorem d144_44 : decode (hs_code 144) 44 = .ok (.if_icmp .ge 33, 3) := by decide +kernel
theorem d144_47 : decode (hs_code 144) 47 = .ok (.aload_n 0, 1) := by decide +kernel
theorem d144_48 : decode (hs_code 144) 48 = .ok (.getfield 55, 3) := by decide +kernel
theorem d144_51 : decode (hs_code 144) 51 = .ok (.iload 4, 2) := by decide +kernel
theorem d144_53 : decode (hs_code 144) 53 = .ok (.iload 5, 2) := by decide +kernel
theorem d144_55 : decode (hs_code 144) 55 = .ok (.iadd, 1) := by decide +kernel
theorem d144_56 : decode (hs_code 144) 56 = .ok (.aload_n 0, 1) := by decide +kernel
theorem d144_57 : decode (hs_code 144) 57 = .ok (.getfield 55, 3) := by decide +kernel
theorem d144_60 : decode (hs_code 144) 60 = .ok (.iload 5, 2) := by decide +kernel
theorem d144_62 : decode (hs_code 144) 62 = .ok (.iaload, 1) := by decide +kernel
theorem d144_63 : decode (hs_code 144) 63 = .ok (.aload_n 1, 1) := by decide +kernel
theorem d144_64 : decode (hs_code 144) 64 = .ok (.getfield 202, 3) := by decide +kernel
theorem d144_67 : decode (hs_code 144) 67 = .ok (.iload_n 3, 1) := by decide +kernel
theorem d144_68 : decode (hs_code 144) 68 = .ok (.iaload, 1) := by decide +kernel
theorem d144_69 : decode (hs_code 144) 69 = .ok (.iadd, 1) := by decide +kernel
theorem d144_70 : decode (hs_code 144) 70 = .ok (.iastore, 1) := by decide +kernel
theorem d144_71 : decode (hs_code 144) 71 = .ok (.iinc 5 1, 3) := by decide +kernel
theorem d144_74 : decode (hs_code 144) 74 = .ok (.goto (-34), 3) := by decide +kernel
theorem d144_77 : decode (hs_code 144) 77 = .ok (.iinc 3 1, 3) := by decide +kernel
theorem d144_80 : decode (hs_code 144) 80 = .ok (.goto (-56), 3) := by decide +kernel
theorem d144_83 : decode (hs_code 144) 83 = .ok (.iload_n 2, 1) := by decide +kernel
theorem d144_84 : decode (hs_code 144) 84 = .ok (.ireturn, 1) := by decide +kernel
theorem d145_0 : decode (hs_code 145) 0 = .ok (.iload_n 1, 1) := by decide +kernel
theorem d145_1 : decode (hs_code 145) 1 = .ok (.ifCond .lt 10, 3) := by decide +kernel
theorem d145_4 : decode (hs_code 145) 4 = .ok (.iload_n 1, 1) := by decide +kernel
theorem d145_5 : decode (hs_code 145) 5 = .ok (.sipush 999, 3) := by decide +kernel
theorem d145_8 : decode (hs_code 145) 8 = .ok (.if_icmp .le 11, 3) := by decide +kernel
theorem d145_11 : decode (hs_code 145) 11 = .ok (.aload_n 0, 1) := by decide +kernel
theorem d145_12 : decode (hs_code 145) 12 = .ok (.iconst 5, 1) := by decide +kernel
theorem d145_13 : decode (hs_code 145) 13 = .ok (.invokevirtual 120, 3) := by decide +kernel
theorem d145_16 : decode (hs_code 145) 16 = .ok (.goto 12, 3) := by decide +kernel
theorem d145_19 : decode (hs_code 145) 19 = .ok (.aload_n 0, 1) := by decide +kernel
theorem d145_20 : decode (hs_code 145) 20 = .ok (.aload_n 0, 1) := by decide +kernel
theorem d145_21 : decode (hs_code 145) 21 = .ok (.iload_n 1, 1) := by decide +kernel
theorem d145_22 : decode (hs_code 145) 22 = .ok (.invokevirtual 322, 3) := by decide +kernel
theorem d145_25 : decode (hs_code 145) 25 = .ok (.invokevirtual 173, 3) := by decide +kernel
theorem d145_28 : decode (hs_code 145) 28 = .ok (.ireturn, 1) := by decide +kernel
theorem d146_0 : decode (hs_code 146) 0 = .ok (.aload_n 0, 1) := by decide +kernel
theorem d146_1 : decode (hs_code 146) 1 = .ok (.aload_n 0, 1) := by decide +kernel
theorem d146_2 : decode (hs_code 146) 2 = .ok (.invokevirtual 325, 3) := by decide +kernel
theorem d146_5 : decode (hs_code 146) 5 = .ok (.invokevirtual 173, 3) := by decide +kernel
theorem d146_8 : decode (hs_code 146) 8 = .ok (.ireturn, 1) := by decide +kernel
theorem d147_0 : decode (hs_code 147) 0 = .ok (.aload_n 0, 1) := by decide +kernel
theorem d147_1 : decode (hs_code 147) 1 = .ok (.invokevirtual 405, 3) := by decide +kernel
theorem d147_4 : decode (hs_code 147) 4 = .ok (.istore_n 1, 1) := by decide +kernel
theorem d147_5 : decode (hs_code 147) 5 = .ok (.aload_n 0, 1) := by decide +kernel
theorem d147_6 : decode (hs_code 147) 6 = .ok (.getfield 60, 3) := by decide +kernel
theorem d147_9 : decode (hs_code 147) 9 = .ok (.getfield 164, 3) := by decide +kernel
theorem d147_12 : decode (hs_code 147) 12 = .ok (.invokevirtual 250, 3) := by decide +kernel
theorem d147_15 : decode (hs_code 147) 15 = .ok (.istore_n 2, 1) := by decide +kernel
theorem d147_16 : decode (hs_code 147) 16 = .ok (.iconst 0, 1) := by decide +kernel
theorem d147_17 : decode (hs_code 147) 17 = .ok (.istore_n 3, 1) := by decide +kernel
theorem d147_18 : decode (hs_code 147) 18 = .ok (.iconst 1, 1) := by decide +kernel
theorem d147_19 : decode (hs_code 147) 19 = .ok (.istore 4, 2) := by decide +kernel
theorem d147_21 : decode (hs_code 147) 21 = .ok (.iload 4, 2) := by decide +kernel
theorem d147_23 : decode (hs_code 147) 23 = .ok (.iload_n 1, 1) := by decide +kernel
theorem d147_24 : decode (hs_code 147) 24 = .ok (.if_icmp .ge 42, 3) := by decide +kernel
theorem d147_27 : decode (hs_code 147) 27 = .ok (.iload_n 2, 1) := by decide +kernel
theorem d147_28 : decode (hs_code 147) 28 = .ok (.iconst 2, 1) := by decide +kernel
theorem d147_29 : decode (hs_code 147) 29 = .ok (.aload_n 0, 1) := by decide +kernel
theorem d147_30 : decode (hs_code 147) 30 = .ok (.getfield 55, 3) := by decide +kernel
theorem d147_33 : decode (hs_code 147) 33 = .ok (.iload 4, 2) := by decide +kernel
theorem d147_35 : decode (hs_code 147) 35 = .ok (.iaload, 1) := by decide +kernel
theorem d147_36 : decode (hs_code 147) 36 = .ok (.imul, 1) := by decide +kernel
theorem d147_37 : decode (hs_code 147) 37 = .ok (.isub, 1) := by decide +kernel
theorem d147_38 : decode (hs_code 147) 38 = .ok (.invokestatic 328, 3) := by decide +kernel
theorem d147_41 : decode (hs_code 147) 41 = .ok (.iload_n 2, 1) := by decide +kernel
theorem d147_42 : decode (hs_code 147) 42 = .ok (.iconst 2, 1) := by decide +kernel
theorem d147_43 : decode (hs_code 147) 43 = .ok (.aload_n 0, 1) := by decide +kernel
theorem d147_44 : decode (hs_code 147) 44 = .ok (.getfield 55, 3) := by decide +kernel
theorem d147_47 : decode (hs_code 147) 47 = .ok (.iload_n 3, 1) := by decide +kernel
theorem d147_48 : decode (hs_code 147) 48 = .ok (.iaload, 1) := by decide +kernel
theorem d147_49 : decode (hs_code 147) 49 = .ok (.imul, 1) := by decide +kernel
theorem d147_50 : decode (hs_code 147) 50 = .ok (.isub, 1) := by decide +kernel
theorem d147_51 : decode (hs_code 147) 51 = .ok (.invokestatic 328, 3) := by decide +kernel
theorem d147_54 : decode (hs_code 147) 54 = .ok (.if_icmp .ge 6, 3) := by decide +kernel
theorem d147_57 : decode (hs_code 147) 57 = .ok (.iload 4, 2) := by decide +kernel
theorem d147_59 : decode (hs_code 147) 59 = .ok (.istore_n 3, 1) := by decide +kernel
theorem d147_60 : decode (hs_code 147) 60 = .ok (.iinc 4 1, 3) := by decide +kernel
theorem d147_63 : decode (hs_code 147) 63 = .ok (.goto (-42), 3) := by decide +kernel
theorem d147_66 : decode (hs_code 147) 66 = .ok (.iload_n 3, 1) := by decide +kernel
theorem d147_67 : decode (hs_code 147) 67 = .ok (.ireturn, 1) := by decide +kernel
theorem d148_0 : decode (hs_code 148) 0 = .ok (.aload_n 0, 1) := by decide +kernel
theorem d148_1 : decode (hs_code 148) 1 = .ok (.invokevirtual 325, 3) := by decide +kernel
theorem d148_4 : decode (hs_code 148) 4 = .ok (.istore_n 1, 1) := by decide +kernel
theorem d148_5 : decode (hs_code 148) 5 = .ok (.aload_n 0, 1) := by decide +kernel
theorem d148_6 : decode (hs_code 148) 6 = .ok (.aload_n 0, 1) := by decide +kernel
theorem d148_7 : decode (hs_code 148) 7 = .ok (.getfield 60, 3) := by decide +kernel
theorem d148_10 : decode (hs_code 148) 10 = .ok (.getfield 164, 3) := by decide +kernel
theorem d148_13 : decode (hs_code 148) 13 = .ok (.invokevirtual 250, 3) := by decide +kernel
theorem d148_16 : decode (hs_code 148) 16 = .ok (.iconst 2, 1) := by decide +kernel
theorem d148_17 : decode (hs_code 148) 17 = .ok (.aload_n 0, 1) := by decide +kernel
theorem d148_18 : decode (hs_code 148) 18 = .ok (.getfield 55, 3) := by decide +kernel
theorem d148_21 : decode (hs_code 148) 21 = .ok (.iload_n 1, 1) := by decide +kernel
theorem d148_22 : decode (hs_code 148) 22 = .ok (.iaload, 1) := by decide +kernel
theorem d148_23 : decode (hs_code 148) 23 = .ok (.imul, 1) := by decide +kernel
theorem d148_24 : decode (hs_code 148) 24 = .ok (.isub, 1) := by decide +kernel
theorem d148_25 : decode (hs_code 148) 25 = .ok (.invokestatic 328, 3) := by decide +kernel
theorem d148_28 : decode (hs_code 148) 28 = .ok (.invokevirtual 173, 3) := by decide +kernel
theorem d148_31 : decode (hs_code 148) 31 = .ok (.ireturn, 1) := by decide +kernel
theorem d149_0 : decode (hs_code 149) 0 = .ok (.iload_n 1, 1) := by decide +kernel
theorem d149_1 : decode (hs_code 149) 1 = .ok (.invokestatic 97, 3) := by decide +kernel
theorem d149_4 : decode (hs_code 149) 4 = .ok (.ifCond .ne 9, 3) := by decide +kernel
theorem d149_7 : decode (hs_code 149) 7 = .ok (.aload_n 0, 1) := by decide +kernel
theorem d149_8 : decode (hs_code 149) 8 = .ok (.iconst 1, 1) := by decide +kernel
theorem d149_9 : decode (hs_code 149) 9 = .ok (.invokevirtual 120, 3) := by decide +kernel
theorem d149_12 : decode (hs_code 149) 12 = .ok (.ireturn, 1) := by decide +kernel
theorem d149_13 : decode (hs_code 149) 13 = .ok (.aload_n 0, 1) := by decide +kernel
theorem d149_14 : decode (hs_code 149) 14 = .ok (.getfield 11, 3) := by decide +kernel
theorem d149_17 : decode (hs_code 149) 17 = .ok (.iload_n 1, 1) := by decide +kernel
theorem d149_18 : decode (hs_code 149) 18 = .ok (.aaload, 1) := by decide +kernel
theorem d149_19 : decode (hs_code 149) 19 = .ok (.astore_n 3, 1) := by decide +kernel
theorem d149_20 : decode (hs_code 149) 20 = .ok (.aload_n 3, 1) := by decide +kernel
theorem d149_21 : decode (hs_code 149) 21 = .ok (.invokevirtual 128, 3) := by decide +kernel
theorem d149_24 : decode (hs_code 149) 24 = .ok (.ifCond .eq 9, 3) := by decide +kernel
theorem d149_27 : decode (hs_code 149) 27 = .ok (.aload_n 0, 1) := by decide +kernel
theorem d149_28 : decode (hs_code 149) 28 = .ok (.iconst 3, 1) := by decide +kernel
theorem d149_29 : decode (hs_code 149) 29 = .ok (.invokevirtual 120, 3) := by decide +kernel
theorem d149_32 : decode (hs_code 149) 32 = .ok (.ireturn, 1) := by decide +kernel
theorem d149_33 : decode (hs_code 149) 33 = .ok (.iload_n 2, 1) := by decide +kernel
theorem d149_34 : decode (hs_code 149) 34 = .ok (.aload_n 3, 1) := by decide +kernel
theorem d149_35 : decode (hs_code 149) 35 = .ok (.getfield 333, 3) := by decide +kernel
theorem d149_38 : decode (hs_code 149) 38 = .ok (.iconst 2, 1) := by decide +kernel
theorem d149_39 : decode (hs_code 149) 39 = .ok (.idiv, 1) := by decide +kernel
theorem d149_40 : decode (hs_code 149) 40 = .ok (.if_icmp .le 9, 3) := by decide +kernel
theorem d149_43 : decode (hs_code 149) 43 = .ok (.aload_n 0, 1) := by decide +kernel
theorem d149_44 : decode (hs_code 149) 44 = .ok (.iconst 4, 1) := by decide +kernel
theorem d149_45 : decode (hs_code 149) 45 = .ok (.invokevirtual 120, 3) := by decide +kernel
theorem d149_48 : decode (hs_code 149) 48 = .ok (.ireturn, 1) := by decide +kernel
theorem d149_49 : decode (hs_code 149) 49 = .ok (.iload_n 2, 1) := by decide +kernel
theorem d149_50 : decode (hs_code 149) 50 = .ok (.ifCond .lt 17, 3) := by decide +kernel
theorem d149_53 : decode (hs_code 149) 53 = .ok (.iload_n 2, 1) := by decide +kernel
theorem d149_54 : decode (hs_code 149) 54 = .ok (.bipush 20, 2) := by decide +kernel
theorem d149_56 : decode (hs_code 149) 56 = .ok (.if_icmp .gt 11, 3) := by decide +kernel
theorem d149_59 : decode (hs_code 149) 59 = .ok (.aload_n 3, 1) := by decide +kernel
theorem d149_60 : decode (hs_code 149) 60 = .ok (.iload_n 2, 1) := by decide +kernel
theorem d149_61 : decode (hs_code 149) 61 = .ok (.invokevirtual 334, 3) := by decide +kernel
theorem d149_64 : decode (hs_code 149) 64 = .ok (.ifCond .ne 9, 3) := by decide +kernel
theorem d149_67 : decode (hs_code 149) 67 = .ok (.aload_n 0, 1) := by decide +kernel
theorem d149_68 : decode (hs_code 149) 68 = .ok (.iconst 5, 1) := by decide +kernel
theorem d149_69 : decode (hs_code 149) 69 = .ok (.invokevirtual 120, 3) := by decide +kernel
theorem d149_72 : decode (hs_code 149) 72 = .ok (.ireturn, 1) := by decide +kernel
theorem d149_73 : decode (hs_code 149) 73 = .ok (.iconst 0, 1) := by decide +kernel
theorem d149_74 : decode (hs_code 149) 74 = .ok (.istore 4, 2) := by decide +kernel
theorem d149_76 : decode (hs_code 149) 76 = .ok (.iconst 0, 1) := by decide +kernel
theorem d149_77 : decode (hs_code 149) 77 = .ok (.istore 5, 2) := by decide +kernel
theorem d149_79 : decode (hs_code 149) 79 = .ok (.iload 5, 2) := by decide +kernel
theorem d149_81 : decode (hs_code 149) 81 = .ok (.aload_n 0, 1) := by decide +kernel
theorem d149_82 : decode (hs_code 149) 82 = .ok (.getfield 60, 3) := by decide +kernel
theorem d149_85 : decode (hs_code 149) 85 = .ok (.getfield 164, 3) := by decide +kernel
theorem d149_88 : decode (hs_code 149) 88 = .ok (.getfield 168, 3) := by decide +kernel
theorem d149_91 : decode (hs_code 149) 91 = .ok (.if_icmp .ge 29, 3) := by decide +kernel
theorem d149_94 : decode (hs_code 149) 94 = .ok (.aload_n 0, 1) := by decide +kernel
theorem d149_95 : decode (hs_code 149) 95 = .ok (.iload 5, 2) := by decide +kernel
theorem d149_97 : decode (hs_code 149) 97 = .ok (.aload_n 3, 1) := by decide +kernel
theorem d149_98 : decode (hs_code 149) 98 = .ok (.iload_n 2, 1) := by decide +kernel
theorem d149_99 : decode (hs_code 149) 99 = .ok (.invokevirtual 337, 3) := by decide +kernel
theorem d149_102 : decode (hs_code 149) 102 = .ok (.ifCond .eq 12, 3) := by decide +kernel
theorem d149_105 : decode (hs_code 149) 105 = .ok (.iload 4, 2) := by decide +kernel
theorem d149_107 : decode (hs_code 149) 107 = .ok (.iconst 1, 1) := by decide +kernel
theorem d149_108 : decode (hs_code 149) 108 = .ok (.iload 5, 2) := by decide +kernel
theorem d149_110 : decode (hs_code 149) 110 = .ok (.ishl, 1) := by decide +kernel
theorem d149_111 : decode (hs_code 149) 111 = .ok (.ior, 1) := by decide +kernel
theorem d149_112 : decode (hs_code 149) 112 = .ok (.istore 4, 2) := by decide +kernel
theorem d149_114 : decode (hs_code 149) 114 = .ok (.iinc 5 1, 3) := by decide +kernel
theorem d149_117 : decode (hs_code 149) 117 = .ok (.goto (-38), 3) := by decide +kernel
theorem d149_120 : decode (hs_code 149) 120 = .ok (.aload_n 0, 1) := by decide +kernel
theorem d149_121 : decode (hs_code 149) 121 = .ok (.iload 4, 2) := by decide +kernel
theorem d149_123 : decode (hs_code 149) 123 = .ok (.invokevirtual 173, 3) := by decide +kernel
theorem d149_126 : decode (hs_code 149) 126 = .ok (.ireturn, 1) := by decide +kernel
theorem d151_0 : decode (hs_code 151) 0 = .ok (.iconst 0, 1) := by decide +kernel
theorem d151_1 : decode (hs_code 151) 1 = .ok (.istore 4, 2) := by decide +kernel
theorem d151_3 : decode (hs_code 151) 3 = .ok (.iload 4, 2) := by decide +kernel
theorem d151_5 : decode (hs_code 151) 5 = .ok (.iload_n 3, 1) := by decide +kernel
theorem d151_6 : decode (hs_code 151) 6 = .ok (.if_icmp .ge 49, 3) := by decide +kernel
theorem d151_9 : decode (hs_code 151) 9 = .ok (.aload_n 2, 1) := by decide +kernel
theorem d151_10 : decode (hs_code 151) 10 = .ok (.getfield 124, 3) := by decide +kernel
theorem d151_13 : decode (hs_code 151) 13 = .ok (.iconst 2, 1) := by decide +kernel
theorem d151_14 : decode (hs_code 151) 14 = .ok (.iload 4, 2) := by decide +kernel
theorem d151_16 : decode (hs_code 151) 16 = .ok (.imul, 1) := by decide +kernel
theorem d151_17 : decode (hs_code 151) 17 = .ok (.laload, 1) := by decide +kernel
theorem d151_18 : decode (hs_code 151) 18 = .ok (.l2i, 1) := by decide +kernel
theorem d151_19 : decode (hs_code 151) 19 = .ok (.istore 5, 2) := by decide +kernel
theorem d151_21 : decode (hs_code 151) 21 = .ok (.aload_n 0, 1) := by decide +kernel
theorem d151_22 : decode (hs_code 151) 22 = .ok (.getfield 60, 3) := by decide +kernel
theorem d151_25 : decode (hs_code 151) 25 = .ok (.iload_n 1, 1) := by decide +kernel
theorem d151_26 : decode (hs_code 151) 26 = .ok (.iload 5, 2) := by decide +kernel
theorem d151_28 : decode (hs_code 151) 28 = .ok (.invokevirtual 299, 3) := by decide +kernel
theorem d151_31 : decode (hs_code 151) 31 = .ok (.i2l, 1) := by decide +kernel
theorem d151_32 : decode (hs_code 151) 32 = .ok (.aload_n 2, 1) := by decide +kernel
theorem d151_33 : decode (hs_code 151) 33 = .ok (.getfield 124, 3) := by decide +kernel
theorem d151_36 : decode (hs_code 151) 36 = .ok (.iconst 2, 1) := by decide +kernel
theorem d151_37 : decode (hs_code 151) 37 = .ok (.iload 4, 2) := by decide +kernel
theorem d151_39 : decode (hs_code 151) 39 = .ok (.imul, 1) := by decide +kernel
theorem d151_40 : decode (hs_code 151) 40 = .ok (.iconst 1, 1) := by decide +kernel
theorem d151_41 : decode (hs_code 151) 41 = .ok (.iadd, 1) := by decide +kernel
theorem d151_42 : decode (hs_code 151) 42 = .ok (.laload, 1) := by decide +kernel
theorem d151_43 : decode (hs_code 151) 43 = .ok (.lcmp, 1) := by decide +kernel
theorem d151_44 : decode (hs_code 151) 44 = .ok (.ifCond .eq 5, 3) := by decide +kernel
theorem d151_47 : decode (hs_code 151) 47 = .ok (.iconst 0, 1) := by decide +kernel
theorem d151_48 : decode (hs_code 151) 48 = .ok (.ireturn, 1) := by decide +kernel
theorem d151_49 : decode (hs_code 151) 49 = .ok (.iinc 4 1, 3) := by decide +kernel
theorem d151_52 : decode (hs_code 151) 52 = .ok (.goto (-49), 3) := by decide +kernel
theorem d151_55 : decode (hs_code 151) 55 = .ok (.iconst 1, 1) := by decide +kernel
theorem d151_56 : decode (hs_code 151) 56 = .ok (.ireturn, 1) := by decide +kernel
theorem d152_0 : decode (hs_code 152) 0 = .ok (.aload_n 0, 1) := by decide +kernel
theorem d152_1 : decode (hs_code 152) 1 = .ok (.invokevirtual 341, 3) := by decide +kernel
theorem d152_4 : decode (hs_code 152) 4 = .ok (.istore_n 1, 1) := by decide +kernel
theorem d152_5 : decode (hs_code 152) 5 = .ok (.iload_n 1, 1) := by decide +kernel
theorem d152_6 : decode (hs_code 152) 6 = .ok (.ifCond .ge 12, 3) := by decide +kernel
theorem d152_9 : decode (hs_code 152) 9 = .ok (.aload_n 0, 1) := by decide +kernel
theorem d152_10 : decode (hs_code 152) 10 = .ok (.bipush 8, 2) := by decide +kernel
theorem d152_12 : decode (hs_code 152) 12 = .ok (.invokevirtual 120, 3) := by decide +kernel
theorem d152_15 : decode (hs_code 152) 15 = .ok (.goto 11, 3) := by decide +kernel
theorem d152_18 : decode (hs_code 152) 18 = .ok (.aload_n 0, 1) := by decide +kernel
theorem d152_19 : decode (hs_code 152) 19 = .ok (.iload_n 1, 1) := by decide +kernel
theorem d152_20 : decode (hs_code 152) 20 = .ok (.invokestatic 317, 3) := by decide +kernel
theorem d152_23 : decode (hs_code 152) 23 = .ok (.invokevirtual 173, 3) := by decide +kernel
theorem d152_26 : decode (hs_code 152) 26 = .ok (.ireturn, 1) := by decide +kernel
theorem d153_0 : decode (hs_code 153) 0 = .ok (.iconst 1, 1) := by decide +kernel
theorem d153_1 : decode (hs_code 153) 1 = .ok (.aload_n 0, 1) := by decide +kernel
theorem d153_2 : decode (hs_code 153) 2 = .ok (.getfield 60, 3) := by decide +kernel
theorem d153_5 : decode (hs_code 153) 5 = .ok (.getfield 344, 3) := by decide +kernel
theorem d153_8 : decode (hs_code 153) 8 = .ok (.ishl, 1) := by decide +kernel
theorem d153_9 : decode (hs_code 153) 9 = .ok (.iconst 1, 1) := by decide +kernel
theorem d153_10 : decode (hs_code 153) 10 = .ok (.isub, 1) := by decide +kernel
theorem d153_11 : decode (hs_code 153) 11 = .ok (.istore_n 1, 1) := by decide +kernel
theorem d153_12 : decode (hs_code 153) 12 = .ok (.iconst 1, 1) := by decide +kernel
theorem d153_13 : decode (hs_code 153) 13 = .ok (.aload_n 0, 1) := by decide +kernel
theorem d153_14 : decode (hs_code 153) 14 = .ok (.getfield 60, 3) := by decide +kernel
theorem d153_17 : decode (hs_code 153) 17 = .ok (.getfield 238, 3) := by decide +kernel
theorem d153_20 : decode (hs_code 153) 20 = .ok (.ishl, 1) := by decide +kernel
theorem d153_21 : decode (hs_code 153) 21 = .ok (.istore_n 2, 1) := by decide +kernel
theorem d153_22 : decode (hs_code 153) 22 = .ok (.aload_n 0, 1) := by decide +kernel
theorem d153_23 : decode (hs_code 153) 23 = .ok (.getfield 55, 3) := by decide +kernel
theorem d153_26 : decode (hs_code 153) 26 = .ok (.iconst 0, 1) := by decide +kernel
theorem d153_27 : decode (hs_code 153) 27 = .ok (.iconst 0, 1) := by decide +kernel
theorem d153_28 : decode (hs_code 153) 28 = .ok (.iastore, 1) := by decide +kernel
theorem d153_29 : decode (hs_code 153) 29 = .ok (.iconst 0, 1) := by decide +kernel
theorem d153_30 : decode (hs_code 153) 30 = .ok (.istore_n 3, 1) := by decide +kernel
theorem d153_31 : decode (hs_code 153) 31 = .ok (.iload_n 3, 1) := by decide +kernel
theorem d153_32 : decode (hs_code 153) 32 = .ok (.aload_n 0, 1) := by decide +kernel
theorem d153_33 : decode (hs_code 153) 33 = .ok (.getfield 60, 3) := by decide +kernel
theorem d153_36 : decode (hs_code 153) 36 = .ok (.getfield 238, 3) := by decide +kernel
theorem d153_39 : decode (hs_code 153) 39 = .ok (.if_icmp .ge 75, 3) := by decide +kernel
theorem d153_42 : decode (hs_code 153) 42 = .ok (.iconst 1, 1) := by decide +kernel
theorem d153_43 : decode (hs_code 153) 43 = .ok (.iload_n 3, 1) := by decide +kernel
theorem d153_44 : decode (hs_code 153) 44 = .ok (.ishl, 1) := by decide +kernel
theorem d153_45 : decode (hs_code 153) 45 = .ok (.istore 4, 2) := by decide +kernel
theorem d153_47 : decode (hs_code 153) 47 = .ok (.iconst 1, 1) := by decide +kernel
theorem d153_48 : decode (hs_code 153) 48 = .ok (.aload_n 0, 1) := by decide +kernel
theorem d153_49 : decode (hs_code 153) 49 = .ok (.getfield 60, 3) := by decide +kernel
theorem d153_52 : decode (hs_code 153) 52 = .ok (.getfield 241, 3) := by decide +kernel
theorem d153_55 : decode (hs_code 153) 55 = .ok (.iload_n 3, 1) := by decide +kernel
theorem d153_56 : decode (hs_code 153) 56 = .ok (.iaload, 1) := by decide +kernel
theorem d153_57 : decode (hs_code 153) 57 = .ok (.ishl, 1) := by decide +kernel
theorem d153_58 : decode (hs_code 153) 58 = .ok (.iconst 1, 1) := by decide +kernel
theorem d153_59 : decode (hs_code 153) 59 = .ok (.aload_n 0, 1) := by decide +kernel
theorem d153_60 : decode (hs_code 153) 60 = .ok (.getfield 60, 3) := by decide +kernel
theorem d153_63 : decode (hs_code 153) 63 = .ok (.getfield 244, 3) := by decide +kernel
theorem d153_66 : decode (hs_code 153) 66 = .ok (.iload_n 3, 1) := by decide +kernel
theorem d153_67 : decode (hs_code 153) 67 = .ok (.iaload, 1) := by decide +kernel
theorem d153_68 : decode (hs_code 153) 68 = .ok (.ishl, 1) := by decide +kernel
theorem d153_69 : decode (hs_code 153) 69 = .ok (.ior, 1) := by decide +kernel
theorem d153_70 : decode (hs_code 153) 70 = .ok (.istore 5, 2) := by decide +kernel
theorem d153_72 : decode (hs_code 153) 72 = .ok (.iconst 0, 1) := by decide +kernel
theorem d153_73 : decode (hs_code 153) 73 = .ok (.istore 6, 2) := by decide +kernel
theorem d153_75 : decode (hs_code 153) 75 = .ok (.iload 6, 2) := by decide +kernel
theorem d153_77 : decode (hs_code 153) 77 = .ok (.iload 4, 2) := by decide +kernel
theorem d153_79 : decode (hs_code 153) 79 = .ok (.if_icmp .ge 29, 3) := by decide +kernel
theorem d153_82 : decode (hs_code 153) 82 = .ok (.aload_n 0, 1) := by decide +kernel
theorem d153_83 : decode (hs_code 153) 83 = .ok (.getfield 55, 3) := by decide +kernel
theorem d153_86 : decode (hs_code 153) 86 = .ok (.iload 4, 2) := by decide +kernel
theorem d153_88 : decode (hs_code 153) 88 = .ok (.iload 6, 2) := by decide +kernel
theorem d153_90 : decode (hs_code 153) 90 = .ok (.iadd, 1) := by decide +kernel
theorem d153_91 : decode (hs_code 153) 91 = .ok (.aload_n 0, 1) := by decide +kernel
theorem d153_92 : decode (hs_code 153) 92 = .ok (.getfield 55, 3) := by decide +kernel
theorem d153_95 : decode (hs_code 153) 95 = .ok (.iload 6, 2) := by decide +kernel
theorem d153_97 : decode (hs_code 153) 97 = .ok (.iaload, 1) := by decide +kernel
theorem d153_98 : decode (hs_code 153) 98 = .ok (.iload 5, 2) := by decide +kernel
theorem d153_100 : decode (hs_code 153) 100 = .ok (.ior, 1) := by decide +kernel
theorem d153_101 : decode (hs_code 153) 101 = .ok (.iastore, 1) := by decide +kernel
theorem d153_102 : decode (hs_code 153) 102 = .ok (.iinc 6 1, 3) := by decide +kernel
theorem d153_105 : decode (hs_code 153) 105 = .ok (.goto (-30), 3) := by decide +kernel
theorem d153_108 : decode (hs_code 153) 108 = .ok (.iinc 3 1, 3) := by decide +kernel
theorem d153_111 : decode (hs_code 153) 111 = .ok (.goto (-80), 3) := by decide +kernel
theorem d153_114 : decode (hs_code 153) 114 = .ok (.iconst (-1), 1) := by decide +kernel
theorem d153_115 : decode (hs_code 153) 115 = .ok (.istore_n 3, 1) := by decide +kernel
theorem d153_116 : decode (hs_code 153) 116 = .ok (.iconst 0, 1) := by decide +kernel
theorem d153_117 : decode (hs_code 153) 117 = .ok (.istore 4, 2) := by decide +kernel
theorem d153_119 : decode (hs_code 153) 119 = .ok (.iload 4, 2) := by decide +kernel
theorem d153_121 : decode (hs_code 153) 121 = .ok (.iload_n 2, 1) := by decide +kernel
theorem d153_122 : decode (hs_code 153) 122 = .ok (.if_icmp .ge 39, 3) := by decide +kernel
theorem d153_125 : decode (hs_code 153) 125 = .ok (.aload_n 0, 1) := by decide +kernel
theorem d153_126 : decode (hs_code 153) 126 = .ok (.getfield 55, 3) := by decide +kernel
theorem d153_129 : decode (hs_code 153) 129 = .ok (.iload 4, 2) := by decide +kernel
theorem d153_131 : decode (hs_code 153) 131 = .ok (.iaload, 1) := by decide +kernel
theorem d153_132 : decode (hs_code 153) 132 = .ok (.iload_n 1, 1) := by decide +kernel
theorem d153_133 : decode (hs_code 153) 133 = .ok (.if_icmp .ne 22, 3) := by decide +kernel
theorem d153_136 : decode (hs_code 153) 136 = .ok (.iload_n 3, 1) := by decide +kernel
theorem d153_137 : decode (hs_code 153) 137 = .ok (.ifCond .lt 15, 3) := by decide +kernel
theorem d153_140 : decode (hs_code 153) 140 = .ok (.iload 4, 2) := by decide +kernel
theorem d153_142 : decode (hs_code 153) 142 = .ok (.invokestatic 317, 3) := by decide +kernel
theorem d153_145 : decode (hs_code 153) 145 = .ok (.iload_n 3, 1) := by decide +kernel
theorem d153_146 : decode (hs_code 153) 146 = .ok (.invokestatic 317, 3) := by decide +kernel
theorem d153_149 : decode (hs_code 153) 149 = .ok (.if_icmp .ge 6, 3) := by decide +kernel
theorem d153_152 : decode (hs_code 153) 152 = .ok (.iload 4, 2) := by decide +kernel
theorem d153_154 : decode (hs_code 153) 154 = .ok (.istore_n 3, 1) := by decide +kernel
theorem d153_155 : decode (hs_code 153) 155 = .ok (.iinc 4 1, 3) := by decide +kernel
theorem d153_158 : decode (hs_code 153) 158 = .ok (.goto (-39), 3) := by decide +kernel
theorem d153_161 : decode (hs_code 153) 161 = .ok (.iload_n 3, 1) := by decide +kernel
theorem d153_162 : decode (hs_code 153) 162 = .ok (.ireturn, 1) := by decide +kernel
theorem d154_0 : decode (hs_code 154) 0 = .ok (.aload_n 0, 1) := by decide +kernel
theorem d154_1 : decode (hs_code 154) 1 = .ok (.invokevirtual 341, 3) := by decide +kernel
theorem d154_4 : decode (hs_code 154) 4 = .ok (.istore_n 1, 1) := by decide +kernel
theorem d154_5 : decode (hs_code 154) 5 = .ok (.iload_n 1, 1) := by decide +kernel
theorem d154_6 : decode (hs_code 154) 6 = .ok (.ifCond .ge 12, 3) := by decide +kernel
theorem d154_9 : decode (hs_code 154) 9 = .ok (.aload_n 0, 1) := by decide +kernel
theorem d154_10 : decode (hs_code 154) 10 = .ok (.bipush 8, 2) := by decide +kernel
theorem d154_12 : decode (hs_code 154) 12 = .ok (.invokevirtual 120, 3) := by decide +kernel
theorem d154_15 : decode (hs_code 154) 15 = .ok (.goto 8, 3) := by decide +kernel
theorem d154_18 : decode (hs_code 154) 18 = .ok (.aload_n 0, 1) := by decide +kernel
theorem d154_19 : decode (hs_code 154) 19 = .ok (.iload_n 1, 1) := by decide +kernel
theorem d154_20 : decode (hs_code 154) 20 = .ok (.invokevirtual 173, 3) := by decide +kernel
theorem d154_23 : decode (hs_code 154) 23 = .ok (.ireturn, 1) := by decide +kernel
theorem f13_90 : hs_fld (hs_own 13) 90 = some (10, 16, 0, 0) := by decide +kernel
theorem f14_94 : hs_fld (hs_own 14) 94 = some (10, 17, 2, 0) := by decide +kernel
theorem f15_85 : hs_fld (hs_own 15) 85 = some (10, 18, 2, 0) := by decide +kernel
theorem f16_11 : hs_fld (hs_own 16) 11 = some (10, 0, 3, 1) := by decide +kernel
theorem f18_90 : hs_fld (hs_own 18) 90 = some (10, 16, 0, 0) := by decide +kernel
theorem f20_90 : hs_fld (hs_own 20) 90 = some (10, 16, 0, 0) := by decide +kernel
theorem f21_11 : hs_fld (hs_own 21) 11 = some (10, 0, 3, 1) := by decide +kernel
theorem f22_11 : hs_fld (hs_own 22) 11 = some (10, 0, 3, 1) := by decide +kernel
theorem f27_11 : hs_fld (hs_own 27) 11 = some (10, 0, 3, 1) := by decide +kernel
theorem f27_90 : hs_fld (hs_own 27) 90 = some (10, 16, 0, 0) := by decide +kernel
theorem f27_124 : hs_fld (hs_own 27) 124 = some (9, 0, 3, 1) := by decide +kernel
theorem f28_90 : hs_fld (hs_own 28) 90 = some (10, 16, 0, 0) := by decide +kernel
theorem f29_11 : hs_fld (hs_own 29) 11 = some (10, 0, 3, 1) := by decide +kernel
theorem f29_124 : hs_fld (hs_own 29) 124 = some (9, 0, 3, 1) := by decide +kernel
theorem f29_131 : hs_fld (hs_own 29) 131 = some (9, 1, 0, 0) := by decide +kernel
theorem f31_18 : hs_fld (hs_own 31) 18 = some (10, 1, 3, 1) := by decide +kernel
theorem f31_151 : hs_fld (hs_own 31) 151 = some (8, 5, 0, 0) := by decide +kernel
theorem f34_18 : hs_fld (hs_own 34) 18 = some (10, 1, 3, 1) := by decide +kernel
theorem f34_25 : hs_fld (hs_own 34) 25 = some (10, 2, 3, 1) := by decide +kernel
theorem f34_60 : hs_fld (hs_own 34) 60 = some (10, 8, 3, 0) := by decide +kernel
theorem f34_64 : hs_fld (hs_own 34) 64 = some (10, 9, 3, 0) := by decide +kernel
theorem f34_68 : hs_fld (hs_own 34) 68 = some (10, 10, 3, 0) := by decide +kernel
theorem f34_151 : hs_fld (hs_own 34) 151 = some (8, 5, 0, 0) := by decide +kernel
theorem f34_164 : hs_fld (hs_own 34) 164 = some (4, 1, 3, 1) := by decide +kernel
theorem f34_168 : hs_fld (hs_own 34) 168 = some (1, 4, 0, 0) := by decide +kernel
theorem f68_90 : hs_fld (hs_own 68) 90 = some (10, 16, 0, 0) := by decide +kernel
theorem f69_18 : hs_fld (hs_own 69) 18 = some (10, 1, 3, 1) := by decide +kernel
theorem f69_32 : hs_fld (hs_own 69) 32 = some (10, 3, 3, 1) := by decide +kernel
theorem f69_60 : hs_fld (hs_own 69) 60 = some (10, 8, 3, 0) := by decide +kernel
theorem f69_68 : hs_fld (hs_own 69) 68 = some (10, 10, 3, 0) := by decide +kernel
theorem f69_72 : hs_fld (hs_own 69) 72 = some (10, 11, 3, 0) := by decide +kernel
theorem f69_151 : hs_fld (hs_own 69) 151 = some (8, 5, 0, 0) := by decide +kernel
theorem f69_176 : hs_fld (hs_own 69) 176 = some (4, 0, 3, 1) := by decide +kernel
theorem f69_184 : hs_fld (hs_own 69) 184 = some (5, 6, 0, 0) := by decide +kernel
theorem f79_18 : hs_fld (hs_own 79) 18 = some (10, 1, 3, 1) := by decide +kernel
theorem f79_187 : hs_fld (hs_own 79) 187 = some (8, 11, 0, 0) := by decide +kernel
theorem f79_190 : hs_fld (hs_own 79) 190 = some (8, 12, 0, 0) := by decide +kernel
theorem f80_60 : hs_fld (hs_own 80) 60 = some (10, 8, 3, 0) := by decide +kernel
theorem f88_60 : hs_fld (hs_own 88) 60 = some (10, 8, 3, 0) := by decide +kernel
theorem f88_164 : hs_fld (hs_own 88) 164 = some (4, 1, 3, 1) := by decide +kernel
theorem f88_202 : hs_fld (hs_own 88) 202 = some (1, 0, 3, 1) := by decide +kernel
theorem f88_205 : hs_fld (hs_own 88) 205 = some (1, 1, 3, 1) := by decide +kernel
theorem f88_208 : hs_fld (hs_own 88) 208 = some (1, 2, 3, 1) := by decide +kernel
theorem f88_211 : hs_fld (hs_own 88) 211 = some (1, 3, 3, 1) := by decide +kernel
theorem f89_60 : hs_fld (hs_own 89) 60 = some (10, 8, 3, 0) := by decide +kernel
theorem f89_164 : hs_fld (hs_own 89) 164 = some (4, 1, 3, 1) := by decide +kernel
theorem f89_168 : hs_fld (hs_own 89) 168 = some (1, 4, 0, 0) := by decide +kernel
theorem f90_60 : hs_fld (hs_own 90) 60 = some (10, 8, 3, 0) := by decide +kernel
theorem f90_217 : hs_fld (hs_own 90) 217 = some (4, 2, 3, 1) := by decide +kernel
theorem f90_220 : hs_fld (hs_own 90) 220 = some (4, 3, 3, 1) := by decide +kernel
theorem f91_60 : hs_fld (hs_own 91) 60 = some (10, 8, 3, 0) := by decide +kernel
theorem f91_399 : hs_fld (hs_own 91) 399 = some (4, 8, 0, 0) := by decide +kernel
theorem f92_60 : hs_fld (hs_own 92) 60 = some (10, 8, 3, 0) := by decide +kernel
theorem f92_223 : hs_fld (hs_own 92) 223 = some (4, 17, 0, 0) := by decide +kernel
theorem f93_60 : hs_fld (hs_own 93) 60 = some (10, 8, 3, 0) := by decide +kernel
theorem f93_226 : hs_fld (hs_own 93) 226 = some (4, 9, 0, 0) := by decide +kernel
theorem f93_229 : hs_fld (hs_own 93) 229 = some (4, 4, 3, 1) := by decide +kernel
theorem f94_60 : hs_fld (hs_own 94) 60 = some (10, 8, 3, 0) := by decide +kernel
theorem f95_60 : hs_fld (hs_own 95) 60 = some (10, 8, 3, 0) := by decide +kernel
theorem f95_290 : hs_fld (hs_own 95) 290 = some (4, 10, 0, 0) := by decide +kernel
theorem f97_60 : hs_fld (hs_own 97) 60 = some (10, 8, 3, 0) := by decide +kernel
theorem f97_238 : hs_fld (hs_own 97) 238 = some (4, 12, 0, 0) := by decide +kernel
theorem f97_241 : hs_fld (hs_own 97) 241 = some (4, 6, 3, 1) := by decide +kernel
theorem f97_244 : hs_fld (hs_own 97) 244 = some (4, 7, 3, 1) := by decide +kernel
theorem f98_11 : hs_fld (hs_own 98) 11 = some (10, 0, 3, 1) := by decide +kernel
theorem f98_60 : hs_fld (hs_own 98) 60 = some (10, 8, 3, 0) := by decide +kernel
theorem f98_164 : hs_fld (hs_own 98) 164 = some (4, 1, 3, 1) := by decide +kernel
theorem f98_168 : hs_fld (hs_own 98) 168 = some (1, 4, 0, 0) := by decide +kernel
theorem f98_202 : hs_fld (hs_own 98) 202 = some (1, 0, 3, 1) := by decide +kernel
theorem f99_60 : hs_fld (hs_own 99) 60 = some (10, 8, 3, 0) := by decide +kernel
theorem f99_164 : hs_fld (hs_own 99) 164 = some (4, 1, 3, 1) := by decide +kernel
theorem f104_60 : hs_fld (hs_own 104) 60 = some (10, 8, 3, 0) := by decide +kernel
theorem f106_60 : hs_fld (hs_own 106) 60 = some (10, 8, 3, 0) := by decide +kernel
theorem f106_164 : hs_fld (hs_own 106) 164 = some (4, 1, 3, 1) := by decide +kernel
theorem f106_211 : hs_fld (hs_own 106) 211 = some (1, 3, 3, 1) := by decide +kernel
theorem f108_60 : hs_fld (hs_own 108) 60 = some (10, 8, 3, 0) := by decide +kernel
theorem f108_164 : hs_fld (hs_own 108) 164 = some (4, 1, 3, 1) := by decide +kernel
theorem f109_60 : hs_fld (hs_own 109) 60 = some (10, 8, 3, 0) := by decide +kernel
theorem f109_164 : hs_fld (hs_own 109) 164 = some (4, 1, 3, 1) := by decide +kernel
theorem f109_202 : hs_fld (hs_own 109) 202 = some (1, 0, 3, 1) := by decide +kernel
theorem f111_60 : hs_fld (hs_own 111) 60 = some (10, 8, 3, 0) := by decide +kernel
theorem f111_164 : hs_fld (hs_own 111) 164 = some (4, 1, 3, 1) := by decide +kernel
theorem f113_60 : hs_fld (hs_own 113) 60 = some (10, 8, 3, 0) := by decide +kernel
theorem f113_223 : hs_fld (hs_own 113) 223 = some (4, 17, 0, 0) := by decide +kernel
theorem f115_60 : hs_fld (hs_own 115) 60 = some (10, 8, 3, 0) := by decide +kernel
theorem f115_164 : hs_fld (hs_own 115) 164 = some (4, 1, 3, 1) := by decide +kernel
theorem f115_208 : hs_fld (hs_own 115) 208 = some (1, 2, 3, 1) := by decide +kernel
theorem f116_60 : hs_fld (hs_own 116) 60 = some (10, 8, 3, 0) := by decide +kernel
theorem f116_217 : hs_fld (hs_own 116) 217 = some (4, 2, 3, 1) := by decide +kernel
theorem f117_60 : hs_fld (hs_own 117) 60 = some (10, 8, 3, 0) := by decide +kernel
theorem f117_274 : hs_fld (hs_own 117) 274 = some (4, 13, 0, 0) := by decide +kernel
theorem f117_277 : hs_fld (hs_own 117) 277 = some (4, 14, 0, 0) := by decide +kernel
theorem f118_60 : hs_fld (hs_own 118) 60 = some (10, 8, 3, 0) := by decide +kernel
theorem f119_60 : hs_fld (hs_own 119) 60 = some (10, 8, 3, 0) := by decide +kernel
theorem f119_164 : hs_fld (hs_own 119) 164 = some (4, 1, 3, 1) := by decide +kernel
theorem f119_168 : hs_fld (hs_own 119) 168 = some (1, 4, 0, 0) := by decide +kernel
theorem f120_60 : hs_fld (hs_own 120) 60 = some (10, 8, 3, 0) := by decide +kernel
theorem f122_60 : hs_fld (hs_own 122) 60 = some (10, 8, 3, 0) := by decide +kernel
theorem f122_290 : hs_fld (hs_own 122) 290 = some (4, 10, 0, 0) := by decide +kernel
theorem f123_60 : hs_fld (hs_own 123) 60 = some (10, 8, 3, 0) := by decide +kernel
theorem f123_164 : hs_fld (hs_own 123) 164 = some (4, 1, 3, 1) := by decide +kernel
theorem f123_168 : hs_fld (hs_own 123) 168 = some (1, 4, 0, 0) := by decide +kernel
theorem f123_208 : hs_fld (hs_own 123) 208 = some (1, 2, 3, 1) := by decide +kernel
theorem f124_60 : hs_fld (hs_own 124) 60 = some (10, 8, 3, 0) := by decide +kernel
theorem f125_60 : hs_fld (hs_own 125) 60 = some (10, 8, 3, 0) := by decide +kernel
theorem f127_60 : hs_fld (hs_own 127) 60 = some (10, 8, 3, 0) := by decide +kernel
theorem f127_164 : hs_fld (hs_own 127) 164 = some (4, 1, 3, 1) := by decide +kernel
theorem f130_60 : hs_fld (hs_own 130) 60 = some (10, 8, 3, 0) := by decide +kernel
theorem f130_164 : hs_fld (hs_own 130) 164 = some (4, 1, 3, 1) := by decide +kernel
theorem f130_168 : hs_fld (hs_own 130) 168 = some (1, 4, 0, 0) := by decide +kernel
theorem f131_60 : hs_fld (hs_own 131) 60 = some (10, 8, 3, 0) := by decide +kernel
theorem f134_60 : hs_fld (hs_own 134) 60 = some (10, 8, 3, 0) := by decide +kernel
theorem f134_164 : hs_fld (hs_own 134) 164 = some (4, 1, 3, 1) := by decide +kernel
theorem f134_302 : hs_fld (hs_own 134) 302 = some (4, 16, 1, 0) := by decide +kernel
theorem f135_60 : hs_fld (hs_own 135) 60 = some (10, 8, 3, 0) := by decide +kernel
theorem f136_60 : hs_fld (hs_own 136) 60 = some (10, 8, 3, 0) := by decide +kernel
theorem f136_164 : hs_fld (hs_own 136) 164 = some (4, 1, 3, 1) := by decide +kernel
theorem f136_302 : hs_fld (hs_own 136) 302 = some (4, 16, 1, 0) := by decide +kernel
theorem f138_60 : hs_fld (hs_own 138) 60 = some (10, 8, 3, 0) := by decide +kernel
theorem f140_60 : hs_fld (hs_own 140) 60 = some (10, 8, 3, 0) := by decide +kernel
theorem f141_60 : hs_fld (hs_own 141) 60 = some (10, 8, 3, 0) := by decide +kernel
theorem f141_164 : hs_fld (hs_own 141) 164 = some (4, 1, 3, 1) := by decide +kernel
theorem f141_202 : hs_fld (hs_own 141) 202 = some (1, 0, 3, 1) := by decide +kernel
theorem f143_55 : hs_fld (hs_own 143) 55 = some (10, 7, 3, 1) := by decide +kernel
theorem f143_60 : hs_fld (hs_own 143) 60 = some (10, 8, 3, 0) := by decide +kernel
theorem f143_164 : hs_fld (hs_own 143) 164 = some (4, 1, 3, 1) := by decide +kernel
theorem f144_55 : hs_fld (hs_own 144) 55 = some (10, 7, 3, 1) := by decide +kernel
theorem f144_60 : hs_fld (hs_own 144) 60 = some (10, 8, 3, 0) := by decide +kernel
theorem f144_164 : hs_fld (hs_own 144) 164 = some (4, 1, 3, 1) := by decide +kernel
theorem f144_168 : hs_fld (hs_own 144) 168 = some (1, 4, 0, 0) := by decide +kernel
theorem f144_202 : hs_fld (hs_own 144) 202 = some (1, 0, 3, 1) := by decide +kernel
theorem f147_55 : hs_fld (hs_own 147) 55 = some (10, 7, 3, 1) := by decide +kernel
theorem f147_60 : hs_fld (hs_own 147) 60 = some (10, 8, 3, 0) := by decide +kernel
theorem f147_164 : hs_fld (hs_own 147) 164 = some (4, 1, 3, 1) := by decide +kernel
theorem f148_55 : hs_fld (hs_own 148) 55 = some (10, 7, 3, 1) := by decide +kernel
theorem f148_60 : hs_fld (hs_own 148) 60 = some (10, 8, 3, 0) := by decide +kernel
theorem f148_164 : hs_fld (hs_own 148) 164 = some (4, 1, 3, 1) := by decide +kernel
theorem f149_11 : hs_fld (hs_own 149) 11 = some (10, 0, 3, 1) := by decide +kernel
theorem f149_60 : hs_fld (hs_own 149) 60 = some (10, 8, 3, 0) := by decide +kernel
theorem f149_164 : hs_fld (hs_own 149) 164 = some (4, 1, 3, 1) := by decide +kernel
theorem f149_168 : hs_fld (hs_own 149) 168 = some (1, 4, 0, 0) := by decide +kernel
theorem f149_333 : hs_fld (hs_own 149) 333 = some (9, 2, 0, 0) := by decide +kernel
theorem f151_60 : hs_fld (hs_own 151) 60 = some (10, 8, 3, 0) := by decide +kernel
theorem f151_124 : hs_fld (hs_own 151) 124 = some (9, 0, 3, 1) := by decide +kernel
theorem f153_55 : hs_fld (hs_own 153) 55 = some (10, 7, 3, 1) := by decide +kernel
theorem f153_60 : hs_fld (hs_own 153) 60 = some (10, 8, 3, 0) := by decide +kernel
theorem f153_238 : hs_fld (hs_own 153) 238 = some (4, 12, 0, 0) := by decide +kernel
theorem f153_241 : hs_fld (hs_own 153) 241 = some (4, 6, 3, 1) := by decide +kernel
theorem f153_244 : hs_fld (hs_own 153) 244 = some (4, 7, 3, 1) := by decide +kernel
theorem f153_344 : hs_fld (hs_own 153) 344 = some (4, 11, 0, 0) := by decide +kernel
theorem rt13 : hs_ret 13 = (some .int) := by decide +kernel
theorem rt14 : hs_ret 14 = (some .long) := by decide +kernel
theorem rt15 : hs_ret 15 = (some .long) := by decide +kernel
theorem rt16 : hs_ret 16 = (some .boolean) := by decide +kernel
theorem rt17 : hs_ret 17 = (some .boolean) := by decide +kernel
theorem rt18 : hs_ret 18 = (some .boolean) := by decide +kernel
theorem rt20 : hs_ret 20 = (some .boolean) := by decide +kernel
theorem rt21 : hs_ret 21 = (some .boolean) := by decide +kernel
theorem rt22 : hs_ret 22 = (some .int) := by decide +kernel
theorem rt27 : hs_ret 27 = (some .long) := by decide +kernel
theorem rt28 : hs_ret 28 = (some .int) := by decide +kernel
theorem rt29 : hs_ret 29 = (some .boolean) := by decide +kernel
theorem rt31 : hs_ret 31 = (some .int) := by decide +kernel
theorem rt34 : hs_ret 34 = (some .int) := by decide +kernel
theorem rt68 : hs_ret 68 = (some .int) := by decide +kernel
theorem rt69 : hs_ret 69 = (some .int) := by decide +kernel
theorem rt79 : hs_ret 79 = (some .int) := by decide +kernel
theorem rt80 : hs_ret 80 = (some .int) := by decide +kernel
theorem rt88 : hs_ret 88 = (some .int) := by decide +kernel
theorem rt89 : hs_ret 89 = (some .boolean) := by decide +kernel
theorem rt90 : hs_ret 90 = (some .int) := by decide +kernel
theorem rt91 : hs_ret 91 = (some .boolean) := by decide +kernel
theorem rt92 : hs_ret 92 = (some .int) := by decide +kernel
theorem rt93 : hs_ret 93 = (some .int) := by decide +kernel
theorem rt94 : hs_ret 94 = (some .int) := by decide +kernel
theorem rt95 : hs_ret 95 = (some .boolean) := by decide +kernel
theorem rt97 : hs_ret 97 = (some .int) := by decide +kernel
theorem rt98 : hs_ret 98 = (some .int) := by decide +kernel
theorem rt99 : hs_ret 99 = (some .int) := by decide +kernel
theorem rt104 : hs_ret 104 = (some .boolean) := by decide +kernel
theorem rt106 : hs_ret 106 = (some .int) := by decide +kernel
theorem rt107 : hs_ret 107 = (some .int) := by decide +kernel
theorem rt108 : hs_ret 108 = (some .int) := by decide +kernel
theorem rt109 : hs_ret 109 = (some .int) := by decide +kernel
theorem rt111 : hs_ret 111 = (some .int) := by decide +kernel
theorem rt113 : hs_ret 113 = (some .int) := by decide +kernel
theorem rt115 : hs_ret 115 = (some .boolean) := by decide +kernel
theorem rt116 : hs_ret 116 = (some .boolean) := by decide +kernel
theorem rt117 : hs_ret 117 = (some .boolean) := by decide +kernel
theorem rt118 : hs_ret 118 = (some .boolean) := by decide +kernel
theorem rt119 : hs_ret 119 = (some .int) := by decide +kernel
theorem rt120 : hs_ret 120 = (some .int) := by decide +kernel
theorem rt122 : hs_ret 122 = (some .int) := by decide +kernel
theorem rt123 : hs_ret 123 = (some .int) := by decide +kernel
theorem rt124 : hs_ret 124 = (some .int) := by decide +kernel
theorem rt125 : hs_ret 125 = (some .int) := by decide +kernel
theorem rt127 : hs_ret 127 = (some .int) := by decide +kernel
theorem rt130 : hs_ret 130 = (some .int) := by decide +kernel
theorem rt131 : hs_ret 131 = (some .int) := by decide +kernel
theorem rt134 : hs_ret 134 = (some .int) := by decide +kernel
theorem rt135 : hs_ret 135 = (some .int) := by decide +kernel
theorem rt136 : hs_ret 136 = (some .int) := by decide +kernel
theorem rt138 : hs_ret 138 = (some .int) := by decide +kernel
theorem rt140 : hs_ret 140 = (some .int) := by decide +kernel
theorem rt141 : hs_ret 141 = (some .int) := by decide +kernel
theorem rt142 : hs_ret 142 = (some .int) := by decide +kernel
theorem rt143 : hs_ret 143 = (some .int) := by decide +kernel
theorem rt144 : hs_ret 144 = (some .int) := by decide +kernel
theorem rt145 : hs_ret 145 = (some .int) := by decide +kernel
theorem rt146 : hs_ret 146 = (some .int) := by decide +kernel
theorem rt147 : hs_ret 147 = (some .int) := by decide +kernel
theorem rt148 : hs_ret 148 = (some .int) := by decide +kernel
theorem rt149 : hs_ret 149 = (some .int) := by decide +kernel
theorem rt151 : hs_ret 151 = (some .boolean) := by decide +kernel
theorem rt152 : hs_ret 152 = (some .int) := by decide +kernel
theorem rt153 : hs_ret 153 = (some .int) := by decide +kernel
theorem rt154 : hs_ret 154 = (some .int) := by decide +kernel
section BB
variable {scr : List Int32} {d : Nat} {h : hs_H} {S : List hs_S} {I : Nat → Nat → Int32} {L : Nat → Nat → Int64} {R : Nat → Nat → Nat}
theorem e13 {t0 : Nat} : hs_C scr d 13 [.ref t0] h = hs_R scr d 13 0 [some (.ref t0)] [] h := by rw [hs_C, mL13]; rfl
theorem b13_0 {t0 : Nat} (o_t0 : ok10 S R t0) : hs_R scr d 13 0 [some (.ref t0)] [] (S, I, L, R) = some (some (.int (I t0 16)), (S, I, L, R)) := Eq.trans (r_al_n d13_0 rfl) (Eq.trans (r_getI d13_1 f13_90 o_t0.2.1) (r_ri d13_4 rt13))
theorem e14 {t0 : Nat} : hs_C scr d 14 [.ref t0] h = hs_R scr d 14 0 [some (.ref t0)] [] h := by rw [hs_C, mL14]; rfl
theorem b14_0 {t0 : Nat} (o_t0 : ok10 S R t0) : hs_R scr d 14 0 [some (.ref t0)] [] (S, I, L, R) = some (some (.long (L t0 17)), (S, I, L, R)) := Eq.trans (r_al_n d14_0 rfl) (Eq.trans (r_getL d14_1 f14_94 o_t0.2.1) (r_rl d14_4 rt14))
theorem e15 {t0 : Nat} : hs_C scr d 15 [.ref t0] h = hs_R scr d 15 0 [some (.ref t0)] [] h := by rw [hs_C, mL15]; rfl
theorem b15_0 {t0 : Nat} (o_t0 : ok10 S R t0) : hs_R scr d 15 0 [some (.ref t0)] [] (S, I, L, R) = some (some (.long (L t0 18)), (S, I, L, R)) := Eq.trans (r_al_n d15_0 rfl) (Eq.trans (r_getL d15_1 f15_85 o_t0.2.1) (r_rl d15_4 rt15))
theorem e16 {t0 : Nat} {x1 : Int32} {x2 : Int32} {x3 : Int32} : hs_C scr d 16 [.ref t0, .int x1, .int x2, .int x3] h = hs_R scr d 16 0 [some (.ref t0), some (.int x1), some (.int x2), some (.int x3)] [] h := by rw [hs_C, mL16]; rfl
theorem b16_0 {t0 : Nat} {x1 x2 x3 : Int32}  : hs_R scr (d + 1) 16 0 [some (.ref t0), some (.int x1), some (.int x2), some (.int x3)] [] (S, I, L, R) = ((hs_C scr d 17 [.int x1] (S, I, L, R)).bind fun o => hs_R scr (d + 1) 16 4 [some (.ref t0), some (.int x1), some (.int x2), some (.int x3)] (o.1.toList ++ []) o.2) := Eq.trans (r_il_n d16_0 rfl) (r_cs (as := [.int x1]) (r := []) d16_1 c16_97 np17.symm rfl (hs_fitE mL17 (Nat.le_of_ble_eq_true rfl)))
theorem b16_4 {t0 : Nat} {x1 x2 x3 s0 : Int32} (o_t0 : ok10 S R t0) : hs_R scr (d + 1) 16 4 [some (.ref t0), some (.int x1), some (.int x2), some (.int x3)] [.int s0] (S, I, L, R) = (if s0 = 0 then hs_R scr (d + 1) 16 16 [some (.ref t0), some (.int x1), some (.int x2), some (.int x3)] [] (S, I, L, R) else (if x2 < 0 then hs_R scr (d + 1) 16 16 [some (.ref t0), some (.int x1), some (.int x2), some (.int x3)] [] (S, I, L, R) else (if x2 ≤ 3 then (if x3 ≤ 60 then (if (0 : Int32) ≤ x3 then (if hs_ib x1 4 = true ∧ 2 ≤ (R (t0 + 1) (Int32.toNatClampNeg x1)) then hs_R scr (d + 1) 16 51 [some (.ref t0), some (.int x1), some (.int x2), some (.int x3)] [.ref (R (t0 + 1) (Int32.toNatClampNeg x1))] (S, I, L, R) else none) else ((hs_C scr d 18 [.ref t0, .int 6] (S, I, L, R)).bind fun o => hs_R scr (d + 1) 16 44 [some (.ref t0), some (.int x1), some (.int x2), some (.int x3)] (o.1.toList ++ []) o.2)) else ((hs_C scr d 18 [.ref t0, .int 5] (S, I, L, R)).bind fun o => hs_R scr (d + 1) 16 33 [some (.ref t0), some (.int x1), some (.int x2), some (.int x3)] (o.1.toList ++ []) o.2)) else hs_R scr (d + 1) 16 16 [some (.ref t0), some (.int x1), some (.int x2), some (.int x3)] [] (S, I, L, R)))) := Eq.trans (r_zeq d16_4 rfl) (q_ite (rfl) (Eq.trans (r_il_n d16_7 rfl) (Eq.trans (r_zlt d16_8 rfl) (q_ite (rfl) (Eq.trans (r_il_n d16_11 rfl) (Eq.trans (r_ic d16_12 kI_3) (Eq.trans (r_cle d16_13 rfl) (q_ite (Eq.trans (r_il_n d16_22 rfl) (Eq.trans (r_bp d16_23 kB_60) (Eq.trans (r_cle d16_25 rfl) (q_ite (Eq.trans (r_il_n d16_34 rfl) (Eq.trans (r_zge d16_35 rfl) (q_ite (Eq.trans (r_al_n d16_45 rfl) (Eq.trans (r_getRe d16_46 f16_11 o_t0.2.1 (o_t0.2.2.1) (Nat.le_trans o_t0.1 (Nat.le_add_right _ _))) (Eq.trans (r_il_n d16_49 rfl) (Eq.trans (r_aald d16_50 (o_t0.2.2.2.1) (by decide)) (q_ite (rfl) rfl))))) (Eq.trans (r_al_n d16_38 rfl) (Eq.trans (r_bp d16_39 kB_6) (r_cvE (as := [.int 6]) (r := []) d16_41 c16_101 ow18 o_t0.2.1 np18.symm rfl (hs_fitE mL18 (Nat.le_of_ble_eq_true rfl)))))))) (Eq.trans (r_al_n d16_28 rfl) (Eq.trans (r_ic d16_29 kI_5) (r_cvE (as := [.int 5]) (r := []) d16_30 c16_101 ow18 o_t0.2.1 np18.symm rfl (hs_fitE mL18 (Nat.le_of_ble_eq_true rfl))))))))) (rfl)))))))))
theorem b16_16 {t0 : Nat} {x1 x2 x3 : Int32} (o_t0 : ok10 S R t0) : hs_R scr (d + 1) 16 16 [some (.ref t0), some (.int x1), some (.int x2), some (.int x3)] [] (S, I, L, R) = ((hs_C scr d 18 [.ref t0, .int 1] (S, I, L, R)).bind fun o => hs_R scr (d + 1) 16 21 [some (.ref t0), some (.int x1), some (.int x2), some (.int x3)] (o.1.toList ++ []) o.2) := Eq.trans (r_al_n d16_16 rfl) (Eq.trans (r_ic d16_17 kI_1) (r_cvE (as := [.int 1]) (r := []) d16_18 c16_101 ow18 o_t0.2.1 np18.symm rfl (hs_fitE mL18 (Nat.le_of_ble_eq_true rfl))))
theorem b16_21 {t0 : Nat} {x1 x2 x3 s0 : Int32}  : hs_R scr d 16 21 [some (.ref t0), some (.int x1), some (.int x2), some (.int x3)] [.int s0] (S, I, L, R) = (if s0 = 0 ∨ s0 = 1 then some (some (.int s0), (S, I, L, R)) else none) := r_rz d16_21 rt16
theorem b16_33 {t0 : Nat} {x1 x2 x3 s0 : Int32}  : hs_R scr d 16 33 [some (.ref t0), some (.int x1), some (.int x2), some (.int x3)] [.int s0] (S, I, L, R) = (if s0 = 0 ∨ s0 = 1 then some (some (.int s0), (S, I, L, R)) else none) := r_rz d16_33 rt16
theorem b16_44 {t0 : Nat} {x1 x2 x3 s0 : Int32}  : hs_R scr d 16 44 [some (.ref t0), some (.int x1), some (.int x2), some (.int x3)] [.int s0] (S, I, L, R) = (if s0 = 0 ∨ s0 = 1 then some (some (.int s0), (S, I, L, R)) else none) := r_rz d16_44 rt16
theorem b16_51 {t0 u0 : Nat} {x1 x2 x3 : Int32} (o_u0 : ok9 S R u0) : hs_R scr (d + 1) 16 51 [some (.ref t0), some (.int x1), some (.int x2), some (.int x3)] [.ref u0] (S, I, L, R) = ((hs_C scr d 19 [.ref u0, .int x2, .int x3] (S, I, L, R)).bind fun o => hs_R scr (d + 1) 16 56 [some (.ref t0), some (.int x1), some (.int x2), some (.int x3)] (o.1.toList ++ []) o.2) := Eq.trans (r_il_n d16_51 rfl) (Eq.trans (r_il_n d16_52 rfl) (r_cvE (as := [.int x2, .int x3]) (r := []) d16_53 c16_104 ow19 o_u0.2.1 np19.symm rfl (hs_fitE mL19 (Nat.le_of_ble_eq_true rfl))))
theorem b16_56 {t0 : Nat} {x1 x2 x3 : Int32} (o_t0 : ok10 S R t0) : hs_R scr (d + 1) 16 56 [some (.ref t0), some (.int x1), some (.int x2), some (.int x3)] [] (S, I, L, R) = ((hs_C scr d 20 [.ref t0] (S, I, L, R)).bind fun o => hs_R scr (d + 1) 16 60 [some (.ref t0), some (.int x1), some (.int x2), some (.int x3)] (o.1.toList ++ []) o.2) := Eq.trans (r_al_n d16_56 rfl) (r_cvE (as := []) (r := []) d16_57 c16_108 ow20 o_t0.2.1 np20.symm rfl (hs_fitE mL20 (Nat.le_of_ble_eq_true rfl)))
theorem b16_60 {t0 : Nat} {x1 x2 x3 s0 : Int32}  : hs_R scr d 16 60 [some (.ref t0), some (.int x1), some (.int x2), some (.int x3)] [.int s0] (S, I, L, R) = (if s0 = 0 ∨ s0 = 1 then some (some (.int s0), (S, I, L, R)) else none) := r_rz d16_60 rt16
theorem e17 {x0 : Int32} : hs_C scr d 17 [.int x0] h = hs_R scr d 17 0 [some (.int x0)] [] h := by rw [hs_C, mL17]; rfl
theorem b17_0 {x0 : Int32}  : hs_R scr d 17 0 [some (.int x0)] [] (S, I, L, R) = (if x0 < 0 then hs_R scr d 17 13 [some (.int x0)] [] (S, I, L, R) else (if (4 : Int32) ≤ x0 then hs_R scr d 17 13 [some (.int x0)] [] (S, I, L, R) else hs_R scr d 17 14 [some (.int x0)] [.int 1] (S, I, L, R))) := Eq.trans (r_il_n d17_0 rfl) (Eq.trans (r_zlt d17_1 rfl) (q_ite (rfl) (Eq.trans (r_il_n d17_4 rfl) (Eq.trans (r_ic d17_5 kI_4) (Eq.trans (r_cge d17_6 rfl) (q_ite (rfl) (Eq.trans (r_ic d17_9 kI_1) (Eq.trans (r_goto d17_10 rfl) (rfl)))))))))
theorem b17_13 {x0 : Int32}  : hs_R scr d 17 13 [some (.int x0)] [] (S, I, L, R) = hs_R scr d 17 14 [some (.int x0)] [.int 0] (S, I, L, R) := Eq.trans (r_ic d17_13 kI_0) (rfl)
theorem b17_14 {x0 s0 : Int32}  : hs_R scr d 17 14 [some (.int x0)] [.int s0] (S, I, L, R) = (if s0 = 0 ∨ s0 = 1 then some (some (.int s0), (S, I, L, R)) else none) := r_rz d17_14 rt17
theorem e18 {t0 : Nat} {x1 : Int32} : hs_C scr d 18 [.ref t0, .int x1] h = hs_R scr d 18 0 [some (.ref t0), some (.int x1)] [] h := by rw [hs_C, mL18]; rfl
theorem b18_0 {t0 : Nat} {x1 : Int32} (o_t0 : ok10 S R t0) : hs_R scr d 18 0 [some (.ref t0), some (.int x1)] [] (S, I, L, R) = some (some (.int 0), (S, (hs_u I t0 16 x1), L, R)) := Eq.trans (r_al_n d18_0 rfl) (Eq.trans (r_il_n d18_1 rfl) (Eq.trans (r_putI d18_2 f18_90 o_t0.2.1) (Eq.trans (r_ic d18_5 kI_0) ((r_rz d18_6 rt18).trans (if_pos (Or.inl rfl))))))
theorem e20 {t0 : Nat} : hs_C scr d 20 [.ref t0] h = hs_R scr d 20 0 [some (.ref t0)] [] h := by rw [hs_C, mL20]; rfl
theorem b20_0 {t0 : Nat} (o_t0 : ok10 S R t0) : hs_R scr d 20 0 [some (.ref t0)] [] (S, I, L, R) = some (some (.int 1), (S, (hs_u I t0 16 0), L, R)) := Eq.trans (r_al_n d20_0 rfl) (Eq.trans (r_ic d20_1 kI_0) (Eq.trans (r_putI d20_2 f20_90 o_t0.2.1) (Eq.trans (r_ic d20_5 kI_1) ((r_rz d20_6 rt20).trans (if_pos (Or.inr rfl))))))
theorem e21 {t0 : Nat} {x1 : Int32} {x2 : Int32} {y3 : Int64} : hs_C scr d 21 [.ref t0, .int x1, .int x2, .long y3] h = hs_R scr d 21 0 [some (.ref t0), some (.int x1), some (.int x2), some (.long y3), none, none] [] h := by rw [hs_C, mL21]; rfl
theorem b21_0 {t0 : Nat} {x1 x2 : Int32} {y3 : Int64} (o_t0 : ok10 S R t0) : hs_R scr (d + 1) 21 0 [some (.ref t0), some (.int x1), some (.int x2), some (.long y3), none, none] [] (S, I, L, R) = ((hs_C scr d 22 [.ref t0, .int x1, .int x2] (S, I, L, R)).bind fun o => hs_R scr (d + 1) 21 6 [some (.ref t0), some (.int x1), some (.int x2), some (.long y3), none, none] (o.1.toList ++ []) o.2) := Eq.trans (r_al_n d21_0 rfl) (Eq.trans (r_il_n d21_1 rfl) (Eq.trans (r_il_n d21_2 rfl) (r_cvE (as := [.int x1, .int x2]) (r := []) d21_3 c21_112 ow22 o_t0.2.1 np22.symm rfl (hs_fitE mL22 (Nat.le_of_ble_eq_true rfl)))))
theorem b21_6 {t0 : Nat} {x1 x2 s0 : Int32} {y3 : Int64} (o_t0 : ok10 S R t0) : hs_R scr (d + 1) 21 6 [some (.ref t0), some (.int x1), some (.int x2), some (.long y3), none, none] [.int s0] (S, I, L, R) = (if s0 = 0 then (if hs_ib x1 4 = true ∧ 2 ≤ (R (t0 + 1) (Int32.toNatClampNeg x1)) then hs_R scr (d + 1) 21 26 [some (.ref t0), some (.int x1), some (.int x2), some (.long y3), none, some (.int s0)] [.ref (R (t0 + 1) (Int32.toNatClampNeg x1))] (S, I, L, R) else none) else ((hs_C scr d 18 [.ref t0, .int s0] (S, I, L, R)).bind fun o => hs_R scr (d + 1) 21 19 [some (.ref t0), some (.int x1), some (.int x2), some (.long y3), none, some (.int s0)] (o.1.toList ++ []) o.2)) := Eq.trans (r_is (loc' := [some (.ref t0), some (.int x1), some (.int x2), some (.long y3), none, some (.int s0)]) d21_6 rfl) (Eq.trans (r_il d21_8 rfl) (Eq.trans (r_zeq d21_10 rfl) (q_ite (Eq.trans (r_al_n d21_20 rfl) (Eq.trans (r_getRe d21_21 f21_11 o_t0.2.1 (o_t0.2.2.1) (Nat.le_trans o_t0.1 (Nat.le_add_right _ _))) (Eq.trans (r_il_n d21_24 rfl) (Eq.trans (r_aald d21_25 (o_t0.2.2.2.1) (by decide)) (q_ite (rfl) rfl))))) (Eq.trans (r_al_n d21_13 rfl) (Eq.trans (r_il d21_14 rfl) (r_cvE (as := [.int s0]) (r := []) d21_16 c21_101 ow18 o_t0.2.1 np18.symm rfl (hs_fitE mL18 (Nat.le_of_ble_eq_true rfl))))))))
theorem b21_19 {t0 : Nat} {x1 x2 x5 s0 : Int32} {y3 : Int64}  : hs_R scr d 21 19 [some (.ref t0), some (.int x1), some (.int x2), some (.long y3), none, some (.int x5)] [.int s0] (S, I, L, R) = (if s0 = 0 ∨ s0 = 1 then some (some (.int s0), (S, I, L, R)) else none) := r_rz d21_19 rt21
theorem b21_26 {t0 u0 : Nat} {x1 x2 x5 : Int32} {y3 : Int64} (o_u0 : ok9 S R u0) : hs_R scr (d + 1) 21 26 [some (.ref t0), some (.int x1), some (.int x2), some (.long y3), none, some (.int x5)] [.ref u0] (S, I, L, R) = ((hs_C scr d 25 [.ref u0, .int x2, .long y3] (S, I, L, R)).bind fun o => hs_R scr (d + 1) 21 31 [some (.ref t0), some (.int x1), some (.int x2), some (.long y3), none, some (.int x5)] (o.1.toList ++ []) o.2) := Eq.trans (r_il_n d21_26 rfl) (Eq.trans (r_ll_n d21_27 rfl) (r_cvE (as := [.int x2, .long y3]) (r := []) d21_28 c21_116 ow25 o_u0.2.1 np25.symm rfl (hs_fitE mL25 (Nat.le_of_ble_eq_true rfl))))
theorem b21_31 {t0 : Nat} {x1 x2 x5 : Int32} {y3 : Int64} (o_t0 : ok10 S R t0) : hs_R scr (d + 1) 21 31 [some (.ref t0), some (.int x1), some (.int x2), some (.long y3), none, some (.int x5)] [] (S, I, L, R) = ((hs_C scr d 20 [.ref t0] (S, I, L, R)).bind fun o => hs_R scr (d + 1) 21 35 [some (.ref t0), some (.int x1), some (.int x2), some (.long y3), none, some (.int x5)] (o.1.toList ++ []) o.2) := Eq.trans (r_al_n d21_31 rfl) (r_cvE (as := []) (r := []) d21_32 c21_108 ow20 o_t0.2.1 np20.symm rfl (hs_fitE mL20 (Nat.le_of_ble_eq_true rfl)))
theorem b21_35 {t0 : Nat} {x1 x2 x5 s0 : Int32} {y3 : Int64}  : hs_R scr d 21 35 [some (.ref t0), some (.int x1), some (.int x2), some (.long y3), none, some (.int x5)] [.int s0] (S, I, L, R) = (if s0 = 0 ∨ s0 = 1 then some (some (.int s0), (S, I, L, R)) else none) := r_rz d21_35 rt21
theorem e22 {t0 : Nat} {x1 : Int32} {x2 : Int32} : hs_C scr d 22 [.ref t0, .int x1, .int x2] h = hs_R scr d 22 0 [some (.ref t0), some (.int x1), some (.int x2)] [] h := by rw [hs_C, mL22]; rfl
theorem b22_0 {t0 : Nat} {x1 x2 : Int32}  : hs_R scr (d + 1) 22 0 [some (.ref t0), some (.int x1), some (.int x2)] [] (S, I, L, R) = ((hs_C scr d 17 [.int x1] (S, I, L, R)).bind fun o => hs_R scr (d + 1) 22 4 [some (.ref t0), some (.int x1), some (.int x2)] (o.1.toList ++ []) o.2) := Eq.trans (r_il_n d22_0 rfl) (r_cs (as := [.int x1]) (r := []) d22_1 c22_97 np17.symm rfl (hs_fitE mL17 (Nat.le_of_ble_eq_true rfl)))
theorem b22_4 {t0 : Nat} {x1 x2 s0 : Int32} (o_t0 : ok10 S R t0) : hs_R scr d 22 4 [some (.ref t0), some (.int x1), some (.int x2)] [.int s0] (S, I, L, R) = (if s0 = 0 then some (some (.int 1), (S, I, L, R)) else (if hs_ib x1 4 = true ∧ 2 ≤ (R (t0 + 1) (Int32.toNatClampNeg x1)) then hs_R scr d 22 15 [some (.ref t0), some (.int x1), some (.int x2)] [.ref (R (t0 + 1) (Int32.toNatClampNeg x1))] (S, I, L, R) else none)) := Eq.trans (r_zne d22_4 rfl) (q_ite (Eq.trans (r_ic d22_7 kI_1) (r_ri d22_8 rt22)) (Eq.trans (r_al_n d22_9 rfl) (Eq.trans (r_getRe d22_10 f22_11 o_t0.2.1 (o_t0.2.2.1) (Nat.le_trans o_t0.1 (Nat.le_add_right _ _))) (Eq.trans (r_il_n d22_13 rfl) (Eq.trans (r_aald d22_14 (o_t0.2.2.2.1) (by decide)) (q_ite (rfl) rfl))))))
theorem b22_15 {t0 u0 : Nat} {x1 x2 : Int32} (o_u0 : ok9 S R u0) : hs_R scr (d + 1) 22 15 [some (.ref t0), some (.int x1), some (.int x2)] [.ref u0] (S, I, L, R) = ((hs_C scr d 23 [.ref u0] (S, I, L, R)).bind fun o => hs_R scr (d + 1) 22 18 [some (.ref t0), some (.int x1), some (.int x2)] (o.1.toList ++ []) o.2) := r_cvE (as := []) (r := []) d22_15 c22_128 ow23 o_u0.2.1 np23.symm rfl (hs_fitE mL23 (Nat.le_of_ble_eq_true rfl))
theorem b22_18 {t0 : Nat} {x1 x2 s0 : Int32} (o_t0 : ok10 S R t0) : hs_R scr d 22 18 [some (.ref t0), some (.int x1), some (.int x2)] [.int s0] (S, I, L, R) = (if s0 = 0 then (if hs_ib x1 4 = true ∧ 2 ≤ (R (t0 + 1) (Int32.toNatClampNeg x1)) then hs_R scr d 22 29 [some (.ref t0), some (.int x1), some (.int x2)] [.ref (R (t0 + 1) (Int32.toNatClampNeg x1))] (S, I, L, R) else none) else some (some (.int 3), (S, I, L, R))) := Eq.trans (r_zeq d22_18 rfl) (q_ite (Eq.trans (r_al_n d22_23 rfl) (Eq.trans (r_getRe d22_24 f22_11 o_t0.2.1 (o_t0.2.2.1) (Nat.le_trans o_t0.1 (Nat.le_add_right _ _))) (Eq.trans (r_il_n d22_27 rfl) (Eq.trans (r_aald d22_28 (o_t0.2.2.2.1) (by decide)) (q_ite (rfl) rfl))))) (Eq.trans (r_ic d22_21 kI_3) (r_ri d22_22 rt22)))
theorem b22_29 {t0 u0 : Nat} {x1 x2 : Int32} (o_u0 : ok9 S R u0) : hs_R scr (d + 1) 22 29 [some (.ref t0), some (.int x1), some (.int x2)] [.ref u0] (S, I, L, R) = ((hs_C scr d 24 [.ref u0, .int x2] (S, I, L, R)).bind fun o => hs_R scr (d + 1) 22 33 [some (.ref t0), some (.int x1), some (.int x2)] (o.1.toList ++ []) o.2) := Eq.trans (r_il_n d22_29 rfl) (r_cvE (as := [.int x2]) (r := []) d22_30 c22_402 ow24 o_u0.2.1 np24.symm rfl (hs_fitE mL24 (Nat.le_of_ble_eq_true rfl)))
theorem b22_33 {t0 : Nat} {x1 x2 s0 : Int32}  : hs_R scr d 22 33 [some (.ref t0), some (.int x1), some (.int x2)] [.int s0] (S, I, L, R) = (if s0 = 0 then hs_R scr d 22 41 [some (.ref t0), some (.int x1), some (.int x2)] [.int 4] (S, I, L, R) else hs_R scr d 22 41 [some (.ref t0), some (.int x1), some (.int x2)] [.int 0] (S, I, L, R)) := Eq.trans (r_zeq d22_33 rfl) (q_ite (Eq.trans (r_ic d22_40 kI_4) (rfl)) (Eq.trans (r_ic d22_36 kI_0) (Eq.trans (r_goto d22_37 rfl) (rfl))))
theorem b22_41 {t0 : Nat} {x1 x2 s0 : Int32}  : hs_R scr d 22 41 [some (.ref t0), some (.int x1), some (.int x2)] [.int s0] (S, I, L, R) = some (some (.int s0), (S, I, L, R)) := r_ri d22_41 rt22
theorem e27 {t0 : Nat} {x1 : Int32} {x2 : Int32} : hs_C scr d 27 [.ref t0, .int x1, .int x2] h = hs_R scr d 27 0 [some (.ref t0), some (.int x1), some (.int x2), none] [] h := by rw [hs_C, mL27]; rfl
theorem b27_0 {t0 : Nat} {x1 x2 : Int32} (o_t0 : ok10 S R t0) : hs_R scr (d + 1) 27 0 [some (.ref t0), some (.int x1), some (.int x2), none] [] (S, I, L, R) = ((hs_C scr d 22 [.ref t0, .int x1, .int x2] (S, I, L, R)).bind fun o => hs_R scr (d + 1) 27 6 [some (.ref t0), some (.int x1), some (.int x2), none] (o.1.toList ++ []) o.2) := Eq.trans (r_al_n d27_0 rfl) (Eq.trans (r_il_n d27_1 rfl) (Eq.trans (r_il_n d27_2 rfl) (r_cvE (as := [.int x1, .int x2]) (r := []) d27_3 c27_112 ow22 o_t0.2.1 np22.symm rfl (hs_fitE mL22 (Nat.le_of_ble_eq_true rfl)))))
theorem b27_6 {t0 : Nat} {x1 x2 s0 : Int32} (o_t0 : ok10 S R t0) : hs_R scr (d + 1) 27 6 [some (.ref t0), some (.int x1), some (.int x2), none] [.int s0] (S, I, L, R) = (if s0 = 0 then (if hs_ib x1 4 = true ∧ 2 ≤ (R (t0 + 1) (Int32.toNatClampNeg x1)) then hs_R scr (d + 1) 27 29 [some (.ref t0), some (.int x1), some (.int x2), some (.int s0)] [.ref (R (t0 + 1) (Int32.toNatClampNeg x1))] (S, (hs_u I t0 16 0), L, R) else none) else ((hs_C scr d 28 [.ref t0, .int s0] (S, I, L, R)).bind fun o => hs_R scr (d + 1) 27 16 [some (.ref t0), some (.int x1), some (.int x2), some (.int s0)] (o.1.toList ++ []) o.2)) := Eq.trans (r_is_n (loc' := [some (.ref t0), some (.int x1), some (.int x2), some (.int s0)]) d27_6 rfl) (Eq.trans (r_il_n d27_7 rfl) (Eq.trans (r_zeq d27_8 rfl) (q_ite (Eq.trans (r_al_n d27_18 rfl) (Eq.trans (r_ic d27_19 kI_0) (Eq.trans (r_putI d27_20 f27_90 o_t0.2.1) (Eq.trans (r_al_n d27_23 rfl) (Eq.trans (r_getRe d27_24 f27_11 o_t0.2.1 (o_t0.2.2.1) (Nat.le_trans o_t0.1 (Nat.le_add_right _ _))) (Eq.trans (r_il_n d27_27 rfl) (Eq.trans (r_aald d27_28 (o_t0.2.2.2.1) (by decide)) (q_ite (rfl) rfl)))))))) (Eq.trans (r_al_n d27_11 rfl) (Eq.trans (r_il_n d27_12 rfl) (r_cvE (as := [.int s0]) (r := []) d27_13 c27_120 ow28 o_t0.2.1 np28.symm rfl (hs_fitE mL28 (Nat.le_of_ble_eq_true rfl))))))))
theorem b27_16 {t0 : Nat} {x1 x2 x3 s0 : Int32}  : hs_R scr d 27 16 [some (.ref t0), some (.int x1), some (.int x2), some (.int x3)] [.int s0] (S, I, L, R) = some (some (.long (Int32.toInt64 s0)), (S, I, L, R)) := Eq.trans (r_i2l d27_16) (r_rl d27_17 rt27)
theorem b27_29 {t0 u0 : Nat} {x1 x2 x3 : Int32} (o_u0 : ok9 S R u0) : hs_R scr d 27 29 [some (.ref t0), some (.int x1), some (.int x2), some (.int x3)] [.ref u0] (S, I, L, R) = (if hs_ib x2 60 = true then some (some (.long (L (u0 + 1) (Int32.toNatClampNeg x2))), (S, I, L, R)) else none) := Eq.trans (r_getRe d27_29 f27_124 o_u0.2.1 (o_u0.2.2.1) (Nat.le_trans o_u0.1 (Nat.le_add_right _ _))) (Eq.trans (r_il_n d27_32 rfl) (Eq.trans (r_lald d27_33 (o_u0.2.2.2)) (q_ite (r_rl d27_34 rt27) rfl)))
theorem e28 {t0 : Nat} {x1 : Int32} : hs_C scr d 28 [.ref t0, .int x1] h = hs_R scr d 28 0 [some (.ref t0), some (.int x1)] [] h := by rw [hs_C, mL28]; rfl
theorem b28_0 {t0 : Nat} {x1 : Int32} (o_t0 : ok10 S R t0) : hs_R scr d 28 0 [some (.ref t0), some (.int x1)] [] (S, I, L, R) = some (some (.int (-1)), (S, (hs_u I t0 16 x1), L, R)) := Eq.trans (r_al_n d28_0 rfl) (Eq.trans (r_il_n d28_1 rfl) (Eq.trans (r_putI d28_2 f28_90 o_t0.2.1) (Eq.trans (r_ic d28_5 kI_m1) (r_ri d28_6 rt28))))
theorem e29 {t0 : Nat} {x1 : Int32} {x2 : Int32} {x3 : Int32} {x4 : Int32} {x5 : Int32} : hs_C scr d 29 [.ref t0, .int x1, .int x2, .int x3, .int x4, .int x5] h = hs_R scr d 29 0 [some (.ref t0), some (.int x1), some (.int x2), some (.int x3), some (.int x4), some (.int x5), none, none] [] h := by rw [hs_C, mL29]; rfl
theorem b29_0 {t0 : Nat} {x1 x2 x3 x4 x5 : Int32}  : hs_R scr (d + 1) 29 0 [some (.ref t0), some (.int x1), some (.int x2), some (.int x3), some (.int x4), some (.int x5), none, none] [] (S, I, L, R) = ((hs_C scr d 17 [.int x1] (S, I, L, R)).bind fun o => hs_R scr (d + 1) 29 4 [some (.ref t0), some (.int x1), some (.int x2), some (.int x3), some (.int x4), some (.int x5), none, none] (o.1.toList ++ []) o.2) := Eq.trans (r_il_n d29_0 rfl) (r_cs (as := [.int x1]) (r := []) d29_1 c29_97 np17.symm rfl (hs_fitE mL17 (Nat.le_of_ble_eq_true rfl)))
theorem b29_4 {t0 : Nat} {x1 x2 x3 x4 x5 s0 : Int32}  : hs_R scr (d + 1) 29 4 [some (.ref t0), some (.int x1), some (.int x2), some (.int x3), some (.int x4), some (.int x5), none, none] [.int s0] (S, I, L, R) = (if s0 = 0 then hs_R scr (d + 1) 29 14 [some (.ref t0), some (.int x1), some (.int x2), some (.int x3), some (.int x4), some (.int x5), none, none] [] (S, I, L, R) else ((hs_C scr d 17 [.int x3] (S, I, L, R)).bind fun o => hs_R scr (d + 1) 29 11 [some (.ref t0), some (.int x1), some (.int x2), some (.int x3), some (.int x4), some (.int x5), none, none] (o.1.toList ++ []) o.2)) := Eq.trans (r_zeq d29_4 rfl) (q_ite (rfl) (Eq.trans (r_il_n d29_7 rfl) (r_cs (as := [.int x3]) (r := []) d29_8 c29_97 np17.symm rfl (hs_fitE mL17 (Nat.le_of_ble_eq_true rfl)))))
theorem b29_11 {t0 : Nat} {x1 x2 x3 x4 x5 s0 : Int32} (o_t0 : ok10 S R t0) : hs_R scr d 29 11 [some (.ref t0), some (.int x1), some (.int x2), some (.int x3), some (.int x4), some (.int x5), none, none] [.int s0] (S, I, L, R) = (if s0 = 0 then hs_R scr d 29 14 [some (.ref t0), some (.int x1), some (.int x2), some (.int x3), some (.int x4), some (.int x5), none, none] [] (S, I, L, R) else (if hs_ib x1 4 = true ∧ 2 ≤ (R (t0 + 1) (Int32.toNatClampNeg x1)) then hs_R scr d 29 26 [some (.ref t0), some (.int x1), some (.int x2), some (.int x3), some (.int x4), some (.int x5), none, none] [.ref (R (t0 + 1) (Int32.toNatClampNeg x1))] (S, I, L, R) else none)) := Eq.trans (r_zne d29_11 rfl) (q_ite (rfl) (Eq.trans (r_al_n d29_20 rfl) (Eq.trans (r_getRe d29_21 f29_11 o_t0.2.1 (o_t0.2.2.1) (Nat.le_trans o_t0.1 (Nat.le_add_right _ _))) (Eq.trans (r_il_n d29_24 rfl) (Eq.trans (r_aald d29_25 (o_t0.2.2.2.1) (by decide)) (q_ite (rfl) rfl))))))
theorem b29_14 {t0 : Nat} {x1 x2 x3 x4 x5 : Int32} (o_t0 : ok10 S R t0) : hs_R scr (d + 1) 29 14 [some (.ref t0), some (.int x1), some (.int x2), some (.int x3), some (.int x4), some (.int x5), none, none] [] (S, I, L, R) = ((hs_C scr d 18 [.ref t0, .int 1] (S, I, L, R)).bind fun o => hs_R scr (d + 1) 29 19 [some (.ref t0), some (.int x1), some (.int x2), some (.int x3), some (.int x4), some (.int x5), none, none] (o.1.toList ++ []) o.2) := Eq.trans (r_al_n d29_14 rfl) (Eq.trans (r_ic d29_15 kI_1) (r_cvE (as := [.int 1]) (r := []) d29_16 c29_101 ow18 o_t0.2.1 np18.symm rfl (hs_fitE mL18 (Nat.le_of_ble_eq_true rfl))))
theorem b29_19 {t0 : Nat} {x1 x2 x3 x4 x5 s0 : Int32}  : hs_R scr d 29 19 [some (.ref t0), some (.int x1), some (.int x2), some (.int x3), some (.int x4), some (.int x5), none, none] [.int s0] (S, I, L, R) = (if s0 = 0 ∨ s0 = 1 then some (some (.int s0), (S, I, L, R)) else none) := r_rz d29_19 rt29
theorem b29_26 {t0 u0 : Nat} {x1 x2 x3 x4 x5 : Int32} (o_t0 : ok10 S R t0) : hs_R scr d 29 26 [some (.ref t0), some (.int x1), some (.int x2), some (.int x3), some (.int x4), some (.int x5), none, none] [.ref u0] (S, I, L, R) = (if hs_ib x3 4 = true ∧ 2 ≤ (R (t0 + 1) (Int32.toNatClampNeg x3)) then hs_R scr d 29 34 [some (.ref t0), some (.int x1), some (.int x2), some (.int x3), some (.int x4), some (.int x5), some (.ref u0), none] [.ref (R (t0 + 1) (Int32.toNatClampNeg x3))] (S, I, L, R) else none) := Eq.trans (r_as (loc' := [some (.ref t0), some (.int x1), some (.int x2), some (.int x3), some (.int x4), some (.int x5), some (.ref u0), none]) d29_26 rfl) (Eq.trans (r_al_n d29_28 rfl) (Eq.trans (r_getRe d29_29 f29_11 o_t0.2.1 (o_t0.2.2.1) (Nat.le_trans o_t0.1 (Nat.le_add_right _ _))) (Eq.trans (r_il_n d29_32 rfl) (Eq.trans (r_aald d29_33 (o_t0.2.2.2.1) (by decide)) (q_ite (rfl) rfl)))))
theorem b29_34 {t0 t6 u0 : Nat} {x1 x2 x3 x4 x5 : Int32} (o_t6 : ok9 S R t6) : hs_R scr (d + 1) 29 34 [some (.ref t0), some (.int x1), some (.int x2), some (.int x3), some (.int x4), some (.int x5), some (.ref t6), none] [.ref u0] (S, I, L, R) = ((hs_C scr d 23 [.ref t6] (S, I, L, R)).bind fun o => hs_R scr (d + 1) 29 41 [some (.ref t0), some (.int x1), some (.int x2), some (.int x3), some (.int x4), some (.int x5), some (.ref t6), some (.ref u0)] (o.1.toList ++ []) o.2) := Eq.trans (r_as (loc' := [some (.ref t0), some (.int x1), some (.int x2), some (.int x3), some (.int x4), some (.int x5), some (.ref t6), some (.ref u0)]) d29_34 rfl) (Eq.trans (r_al d29_36 rfl) (r_cvE (as := []) (r := []) d29_38 c29_128 ow23 o_t6.2.1 np23.symm rfl (hs_fitE mL23 (Nat.le_of_ble_eq_true rfl))))
theorem b29_41 {t0 t6 t7 : Nat} {x1 x2 x3 x4 x5 s0 : Int32} (o_t7 : ok9 S R t7) : hs_R scr (d + 1) 29 41 [some (.ref t0), some (.int x1), some (.int x2), some (.int x3), some (.int x4), some (.int x5), some (.ref t6), some (.ref t7)] [.int s0] (S, I, L, R) = (if s0 = 0 then ((hs_C scr d 23 [.ref t7] (S, I, L, R)).bind fun o => hs_R scr (d + 1) 29 49 [some (.ref t0), some (.int x1), some (.int x2), some (.int x3), some (.int x4), some (.int x5), some (.ref t6), some (.ref t7)] (o.1.toList ++ []) o.2) else hs_R scr (d + 1) 29 52 [some (.ref t0), some (.int x1), some (.int x2), some (.int x3), some (.int x4), some (.int x5), some (.ref t6), some (.ref t7)] [] (S, I, L, R)) := Eq.trans (r_zne d29_41 rfl) (q_ite (Eq.trans (r_al d29_44 rfl) (r_cvE (as := []) (r := []) d29_46 c29_128 ow23 o_t7.2.1 np23.symm rfl (hs_fitE mL23 (Nat.le_of_ble_eq_true rfl)))) (rfl))
theorem b29_49 {t0 t6 t7 : Nat} {x1 x2 x3 x4 x5 s0 : Int32} (o_t6 : ok9 S R t6) (o_t7 : ok9 S R t7) (o_t0 : ok10 S R t0) : hs_R scr (d + 1) 29 49 [some (.ref t0), some (.int x1), some (.int x2), some (.int x3), some (.int x4), some (.int x5), some (.ref t6), some (.ref t7)] [.int s0] (S, I, L, R) = (if s0 = 0 then (if (I t6 1) = (I t7 1) then (if (0 : Int32) ≤ x5 then ((hs_C scr d 30 [.ref t6, .int x2, .int x5] (S, I, L, R)).bind fun o => hs_R scr (d + 1) 29 98 [some (.ref t0), some (.int x1), some (.int x2), some (.int x3), some (.int x4), some (.int x5), some (.ref t6), some (.ref t7)] (o.1.toList ++ []) o.2) else ((hs_C scr d 18 [.ref t0, .int 6] (S, I, L, R)).bind fun o => hs_R scr (d + 1) 29 89 [some (.ref t0), some (.int x1), some (.int x2), some (.int x3), some (.int x4), some (.int x5), some (.ref t6), some (.ref t7)] (o.1.toList ++ []) o.2)) else ((hs_C scr d 18 [.ref t0, .int 11] (S, I, L, R)).bind fun o => hs_R scr (d + 1) 29 77 [some (.ref t0), some (.int x1), some (.int x2), some (.int x3), some (.int x4), some (.int x5), some (.ref t6), some (.ref t7)] (o.1.toList ++ []) o.2)) else hs_R scr (d + 1) 29 52 [some (.ref t0), some (.int x1), some (.int x2), some (.int x3), some (.int x4), some (.int x5), some (.ref t6), some (.ref t7)] [] (S, I, L, R)) := Eq.trans (r_zeq d29_49 rfl) (q_ite (Eq.trans (r_al d29_58 rfl) (Eq.trans (r_getI d29_60 f29_131 o_t6.2.1) (Eq.trans (r_al d29_63 rfl) (Eq.trans (r_getI d29_65 f29_131 o_t7.2.1) (Eq.trans (r_ceq d29_68 rfl) (q_ite (Eq.trans (r_il d29_78 rfl) (Eq.trans (r_zge d29_80 rfl) (q_ite (Eq.trans (r_al d29_90 rfl) (Eq.trans (r_il_n d29_92 rfl) (Eq.trans (r_il d29_93 rfl) (r_cvE (as := [.int x2, .int x5]) (r := []) d29_95 c29_134 ow30 o_t6.2.1 np30.symm rfl (hs_fitE mL30 (Nat.le_of_ble_eq_true rfl)))))) (Eq.trans (r_al_n d29_83 rfl) (Eq.trans (r_bp d29_84 kB_6) (r_cvE (as := [.int 6]) (r := []) d29_86 c29_101 ow18 o_t0.2.1 np18.symm rfl (hs_fitE mL18 (Nat.le_of_ble_eq_true rfl)))))))) (Eq.trans (r_al_n d29_71 rfl) (Eq.trans (r_bp d29_72 kB_11) (r_cvE (as := [.int 11]) (r := []) d29_74 c29_101 ow18 o_t0.2.1 np18.symm rfl (hs_fitE mL18 (Nat.le_of_ble_eq_true rfl))))))))))) (rfl))
theorem b29_52 {t0 t6 t7 : Nat} {x1 x2 x3 x4 x5 : Int32} (o_t0 : ok10 S R t0) : hs_R scr (d + 1) 29 52 [some (.ref t0), some (.int x1), some (.int x2), some (.int x3), some (.int x4), some (.int x5), some (.ref t6), some (.ref t7)] [] (S, I, L, R) = ((hs_C scr d 18 [.ref t0, .int 3] (S, I, L, R)).bind fun o => hs_R scr (d + 1) 29 57 [some (.ref t0), some (.int x1), some (.int x2), some (.int x3), some (.int x4), some (.int x5), some (.ref t6), some (.ref t7)] (o.1.toList ++ []) o.2) := Eq.trans (r_al_n d29_52 rfl) (Eq.trans (r_ic d29_53 kI_3) (r_cvE (as := [.int 3]) (r := []) d29_54 c29_101 ow18 o_t0.2.1 np18.symm rfl (hs_fitE mL18 (Nat.le_of_ble_eq_true rfl))))
theorem b29_57 {t0 t6 t7 : Nat} {x1 x2 x3 x4 x5 s0 : Int32}  : hs_R scr d 29 57 [some (.ref t0), some (.int x1), some (.int x2), some (.int x3), some (.int x4), some (.int x5), some (.ref t6), some (.ref t7)] [.int s0] (S, I, L, R) = (if s0 = 0 ∨ s0 = 1 then some (some (.int s0), (S, I, L, R)) else none) := r_rz d29_57 rt29
theorem b29_77 {t0 t6 t7 : Nat} {x1 x2 x3 x4 x5 s0 : Int32}  : hs_R scr d 29 77 [some (.ref t0), some (.int x1), some (.int x2), some (.int x3), some (.int x4), some (.int x5), some (.ref t6), some (.ref t7)] [.int s0] (S, I, L, R) = (if s0 = 0 ∨ s0 = 1 then some (some (.int s0), (S, I, L, R)) else none) := r_rz d29_77 rt29
theorem b29_89 {t0 t6 t7 : Nat} {x1 x2 x3 x4 x5 s0 : Int32}  : hs_R scr d 29 89 [some (.ref t0), some (.int x1), some (.int x2), some (.int x3), some (.int x4), some (.int x5), some (.ref t6), some (.ref t7)] [.int s0] (S, I, L, R) = (if s0 = 0 ∨ s0 = 1 then some (some (.int s0), (S, I, L, R)) else none) := r_rz d29_89 rt29
theorem b29_98 {t0 t6 t7 : Nat} {x1 x2 x3 x4 x5 s0 : Int32} (o_t7 : ok9 S R t7) : hs_R scr (d + 1) 29 98 [some (.ref t0), some (.int x1), some (.int x2), some (.int x3), some (.int x4), some (.int x5), some (.ref t6), some (.ref t7)] [.int s0] (S, I, L, R) = (if s0 = 0 then hs_R scr (d + 1) 29 113 [some (.ref t0), some (.int x1), some (.int x2), some (.int x3), some (.int x4), some (.int x5), some (.ref t6), some (.ref t7)] [] (S, I, L, R) else ((hs_C scr d 30 [.ref t7, .int x4, .int x5] (S, I, L, R)).bind fun o => hs_R scr (d + 1) 29 110 [some (.ref t0), some (.int x1), some (.int x2), some (.int x3), some (.int x4), some (.int x5), some (.ref t6), some (.ref t7)] (o.1.toList ++ []) o.2)) := Eq.trans (r_zeq d29_98 rfl) (q_ite (rfl) (Eq.trans (r_al d29_101 rfl) (Eq.trans (r_il d29_103 rfl) (Eq.trans (r_il d29_105 rfl) (r_cvE (as := [.int x4, .int x5]) (r := []) d29_107 c29_134 ow30 o_t7.2.1 np30.symm rfl (hs_fitE mL30 (Nat.le_of_ble_eq_true rfl)))))))
theorem b29_110 {t0 t6 t7 : Nat} {x1 x2 x3 x4 x5 s0 : Int32} (o_t6 : ok9 S R t6) (o_t7 : ok9 S R t7) (o_t0 : ok10 S R t0) : hs_R scr (d + 1) 29 110 [some (.ref t0), some (.int x1), some (.int x2), some (.int x3), some (.int x4), some (.int x5), some (.ref t6), some (.ref t7)] [.int s0] (S, I, L, R) = (if s0 = 0 then hs_R scr (d + 1) 29 113 [some (.ref t0), some (.int x1), some (.int x2), some (.int x3), some (.int x4), some (.int x5), some (.ref t6), some (.ref t7)] [] (S, I, L, R) else (if ¬ x2 < 0 ∧ ¬ x4 < 0 ∧ ¬ x5 < 0 ∧ Int32.toNatClampNeg x2 + Int32.toNatClampNeg x5 ≤ 60 ∧ Int32.toNatClampNeg x4 + Int32.toNatClampNeg x5 ≤ 60 then ((hs_C scr d 20 [.ref t0] (S, I, (hs_cpy L (t6 + 1) (t7 + 1) (Int32.toNatClampNeg x2) (Int32.toNatClampNeg x4) (Int32.toNatClampNeg x5)), R)).bind fun o => hs_R scr (d + 1) 29 141 [some (.ref t0), some (.int x1), some (.int x2), some (.int x3), some (.int x4), some (.int x5), some (.ref t6), some (.ref t7)] (o.1.toList ++ []) o.2) else none)) := Eq.trans (r_zne d29_110 rfl) (q_ite (rfl) (Eq.trans (r_al d29_119 rfl) (Eq.trans (r_getRe d29_121 f29_124 o_t6.2.1 (o_t6.2.2.1) (Nat.le_trans o_t6.1 (Nat.le_add_right _ _))) (Eq.trans (r_il_n d29_124 rfl) (Eq.trans (r_al d29_125 rfl) (Eq.trans (r_getRe d29_127 f29_124 o_t7.2.1 (o_t7.2.2.1) (Nat.le_trans o_t7.1 (Nat.le_add_right _ _))) (Eq.trans (r_il d29_130 rfl) (Eq.trans (r_il d29_132 rfl) (Eq.trans (r_acpL d29_134 c29_138 (o_t6.2.2.2) (o_t7.2.2.2) rfl) (q_ite (Eq.trans (r_al_n d29_137 rfl) (r_cvE (as := []) (r := []) d29_138 c29_108 ow20 o_t0.2.1 np20.symm rfl (hs_fitE mL20 (Nat.le_of_ble_eq_true rfl)))) rfl))))))))))
theorem b29_113 {t0 t6 t7 : Nat} {x1 x2 x3 x4 x5 : Int32} (o_t0 : ok10 S R t0) : hs_R scr (d + 1) 29 113 [some (.ref t0), some (.int x1), some (.int x2), some (.int x3), some (.int x4), some (.int x5), some (.ref t6), some (.ref t7)] [] (S, I, L, R) = ((hs_C scr d 18 [.ref t0, .int 4] (S, I, L, R)).bind fun o => hs_R scr (d + 1) 29 118 [some (.ref t0), some (.int x1), some (.int x2), some (.int x3), some (.int x4), some (.int x5), some (.ref t6), some (.ref t7)] (o.1.toList ++ []) o.2) := Eq.trans (r_al_n d29_113 rfl) (Eq.trans (r_ic d29_114 kI_4) (r_cvE (as := [.int 4]) (r := []) d29_115 c29_101 ow18 o_t0.2.1 np18.symm rfl (hs_fitE mL18 (Nat.le_of_ble_eq_true rfl))))
theorem b29_118 {t0 t6 t7 : Nat} {x1 x2 x3 x4 x5 s0 : Int32}  : hs_R scr d 29 118 [some (.ref t0), some (.int x1), some (.int x2), some (.int x3), some (.int x4), some (.int x5), some (.ref t6), some (.ref t7)] [.int s0] (S, I, L, R) = (if s0 = 0 ∨ s0 = 1 then some (some (.int s0), (S, I, L, R)) else none) := r_rz d29_118 rt29
theorem b29_141 {t0 t6 t7 : Nat} {x1 x2 x3 x4 x5 s0 : Int32}  : hs_R scr d 29 141 [some (.ref t0), some (.int x1), some (.int x2), some (.int x3), some (.int x4), some (.int x5), some (.ref t6), some (.ref t7)] [.int s0] (S, I, L, R) = (if s0 = 0 ∨ s0 = 1 then some (some (.int s0), (S, I, L, R)) else none) := r_rz d29_141 rt29
theorem e31 {t0 : Nat} {x1 : Int32} {x2 : Int32} {x3 : Int32} {x4 : Int32} {x5 : Int32} : hs_C scr d 31 [.ref t0, .int x1, .int x2, .int x3, .int x4, .int x5] h = hs_R scr d 31 0 [some (.ref t0), some (.int x1), some (.int x2), some (.int x3), some (.int x4), some (.int x5)] [] h := by rw [hs_C, mL31]; rfl
theorem b31_0 {t0 : Nat} {x1 x2 x3 x4 x5 : Int32} (o_t0 : ok10 S R t0) : hs_R scr (d + 1) 31 0 [some (.ref t0), some (.int x1), some (.int x2), some (.int x3), some (.int x4), some (.int x5)] [] (S, I, L, R) = ((hs_C scr d 32 [.ref (t0 + 2), .int 20] (S, I, L, R)).bind fun o => hs_R scr (d + 1) 31 9 [some (.ref t0), some (.int x1), some (.int x2), some (.int x3), some (.int x4), some (.int x5)] (o.1.toList ++ []) o.2) := Eq.trans (r_al_n d31_0 rfl) (Eq.trans (r_getRe d31_1 f31_18 o_t0.2.1 (o_t0.2.2.2.2.1) (Nat.le_trans o_t0.1 (Nat.le_add_right _ _))) (Eq.trans (r_bp d31_4 kB_20) (r_cvE (as := [.int 20]) (r := []) d31_6 c31_144 ow32 (o_t0.2.2.2.2.2.1).2.1 np32.symm rfl (hs_fitE mL32 (Nat.le_of_ble_eq_true rfl)))))
theorem b31_9 {t0 : Nat} {x1 x2 x3 x4 x5 s0 : Int32} (o_t0 : ok10 S R t0) : hs_R scr (d + 1) 31 9 [some (.ref t0), some (.int x1), some (.int x2), some (.int x3), some (.int x4), some (.int x5)] [.int s0] (S, I, L, R) = (if s0 = 0 then some (some (.int (-1)), (S, I, L, R)) else ((hs_C scr d 33 [.ref (t0 + 2), .int x1] (S, I, L, R)).bind fun o => hs_R scr (d + 1) 31 22 [some (.ref t0), some (.int x1), some (.int x2), some (.int x3), some (.int x4), some (.int x5)] (o.1.toList ++ []) o.2)) := Eq.trans (r_zne d31_9 rfl) (q_ite (Eq.trans (r_ic d31_12 kI_m1) (r_ri d31_13 rt31)) (Eq.trans (r_al_n d31_14 rfl) (Eq.trans (r_getRe d31_15 f31_18 o_t0.2.1 (o_t0.2.2.2.2.1) (Nat.le_trans o_t0.1 (Nat.le_add_right _ _))) (Eq.trans (r_il_n d31_18 rfl) (r_cvE (as := [.int x1]) (r := []) d31_19 c31_147 ow33 (o_t0.2.2.2.2.2.1).2.1 np33.symm rfl (hs_fitE mL33 (Nat.le_of_ble_eq_true rfl)))))))
theorem b31_22 {t0 : Nat} {x1 x2 x3 x4 x5 : Int32} (o_t0 : ok10 S R t0) : hs_R scr (d + 1) 31 22 [some (.ref t0), some (.int x1), some (.int x2), some (.int x3), some (.int x4), some (.int x5)] [] (S, I, L, R) = ((hs_C scr d 33 [.ref (t0 + 2), .int x2] (S, I, L, R)).bind fun o => hs_R scr (d + 1) 31 30 [some (.ref t0), some (.int x1), some (.int x2), some (.int x3), some (.int x4), some (.int x5)] (o.1.toList ++ []) o.2) := Eq.trans (r_al_n d31_22 rfl) (Eq.trans (r_getRe d31_23 f31_18 o_t0.2.1 (o_t0.2.2.2.2.1) (Nat.le_trans o_t0.1 (Nat.le_add_right _ _))) (Eq.trans (r_il_n d31_26 rfl) (r_cvE (as := [.int x2]) (r := []) d31_27 c31_147 ow33 (o_t0.2.2.2.2.2.1).2.1 np33.symm rfl (hs_fitE mL33 (Nat.le_of_ble_eq_true rfl)))))
theorem b31_30 {t0 : Nat} {x1 x2 x3 x4 x5 : Int32} (o_t0 : ok10 S R t0) : hs_R scr (d + 1) 31 30 [some (.ref t0), some (.int x1), some (.int x2), some (.int x3), some (.int x4), some (.int x5)] [] (S, I, L, R) = ((hs_C scr d 33 [.ref (t0 + 2), .int x3] (S, I, L, R)).bind fun o => hs_R scr (d + 1) 31 38 [some (.ref t0), some (.int x1), some (.int x2), some (.int x3), some (.int x4), some (.int x5)] (o.1.toList ++ []) o.2) := Eq.trans (r_al_n d31_30 rfl) (Eq.trans (r_getRe d31_31 f31_18 o_t0.2.1 (o_t0.2.2.2.2.1) (Nat.le_trans o_t0.1 (Nat.le_add_right _ _))) (Eq.trans (r_il_n d31_34 rfl) (r_cvE (as := [.int x3]) (r := []) d31_35 c31_147 ow33 (o_t0.2.2.2.2.2.1).2.1 np33.symm rfl (hs_fitE mL33 (Nat.le_of_ble_eq_true rfl)))))
theorem b31_38 {t0 : Nat} {x1 x2 x3 x4 x5 : Int32} (o_t0 : ok10 S R t0) : hs_R scr (d + 1) 31 38 [some (.ref t0), some (.int x1), some (.int x2), some (.int x3), some (.int x4), some (.int x5)] [] (S, I, L, R) = ((hs_C scr d 33 [.ref (t0 + 2), .int x4] (S, I, L, R)).bind fun o => hs_R scr (d + 1) 31 47 [some (.ref t0), some (.int x1), some (.int x2), some (.int x3), some (.int x4), some (.int x5)] (o.1.toList ++ []) o.2) := Eq.trans (r_al_n d31_38 rfl) (Eq.trans (r_getRe d31_39 f31_18 o_t0.2.1 (o_t0.2.2.2.2.1) (Nat.le_trans o_t0.1 (Nat.le_add_right _ _))) (Eq.trans (r_il d31_42 rfl) (r_cvE (as := [.int x4]) (r := []) d31_44 c31_147 ow33 (o_t0.2.2.2.2.2.1).2.1 np33.symm rfl (hs_fitE mL33 (Nat.le_of_ble_eq_true rfl)))))
theorem b31_47 {t0 : Nat} {x1 x2 x3 x4 x5 : Int32} (o_t0 : ok10 S R t0) : hs_R scr (d + 1) 31 47 [some (.ref t0), some (.int x1), some (.int x2), some (.int x3), some (.int x4), some (.int x5)] [] (S, I, L, R) = ((hs_C scr d 33 [.ref (t0 + 2), .int x5] (S, I, L, R)).bind fun o => hs_R scr (d + 1) 31 56 [some (.ref t0), some (.int x1), some (.int x2), some (.int x3), some (.int x4), some (.int x5)] (o.1.toList ++ []) o.2) := Eq.trans (r_al_n d31_47 rfl) (Eq.trans (r_getRe d31_48 f31_18 o_t0.2.1 (o_t0.2.2.2.2.1) (Nat.le_trans o_t0.1 (Nat.le_add_right _ _))) (Eq.trans (r_il d31_51 rfl) (r_cvE (as := [.int x5]) (r := []) d31_53 c31_147 ow33 (o_t0.2.2.2.2.2.1).2.1 np33.symm rfl (hs_fitE mL33 (Nat.le_of_ble_eq_true rfl)))))
theorem b31_56 {t0 : Nat} {x1 x2 x3 x4 x5 : Int32} (o_t0 : ok10 S R t0) : hs_R scr d 31 56 [some (.ref t0), some (.int x1), some (.int x2), some (.int x3), some (.int x4), some (.int x5)] [] (S, I, L, R) = some (some (.int (I (t0 + 2) 5)), (S, I, L, R)) := Eq.trans (r_al_n d31_56 rfl) (Eq.trans (r_getRe d31_57 f31_18 o_t0.2.1 (o_t0.2.2.2.2.1) (Nat.le_trans o_t0.1 (Nat.le_add_right _ _))) (Eq.trans (r_getI d31_60 f31_151 (o_t0.2.2.2.2.2.1).2.1) (r_ri d31_63 rt31)))
theorem e34 {t0 : Nat} {x1 : Int32} : hs_C scr d 34 [.ref t0, .int x1] h = hs_R scr d 34 0 [some (.ref t0), some (.int x1), none] [] h := by rw [hs_C, mL34]; rfl
theorem b34_0 {t0 : Nat} {x1 : Int32} (o_t0 : ok10 S R t0) : hs_R scr (d + 1) 34 0 [some (.ref t0), some (.int x1), none] [] (S, I, L, R) = (if x1 < 0 then hs_R scr (d + 1) 34 15 [some (.ref t0), some (.int x1), none] [] (S, I, L, R) else (if x1 ≤ (I (t0 + 2) 5) then ((hs_C scr d 35 [.ref (t0 + 2), .int x1] (S, I, L, R)).bind fun o => hs_R scr (d + 1) 34 29 [some (.ref t0), some (.int x1), none] (o.1.toList ++ []) o.2) else hs_R scr (d + 1) 34 15 [some (.ref t0), some (.int x1), none] [] (S, I, L, R))) := Eq.trans (r_il_n d34_0 rfl) (Eq.trans (r_zlt d34_1 rfl) (q_ite (rfl) (Eq.trans (r_il_n d34_4 rfl) (Eq.trans (r_al_n d34_5 rfl) (Eq.trans (r_getRe d34_6 f34_18 o_t0.2.1 (o_t0.2.2.2.2.1) (Nat.le_trans o_t0.1 (Nat.le_add_right _ _))) (Eq.trans (r_getI d34_9 f34_151 (o_t0.2.2.2.2.2.1).2.1) (Eq.trans (r_cle d34_12 rfl) (q_ite (Eq.trans (r_al_n d34_21 rfl) (Eq.trans (r_getRe d34_22 f34_18 o_t0.2.1 (o_t0.2.2.2.2.1) (Nat.le_trans o_t0.1 (Nat.le_add_right _ _))) (Eq.trans (r_il_n d34_25 rfl) (r_cvE (as := [.int x1]) (r := []) d34_26 c34_154 ow35 (o_t0.2.2.2.2.2.1).2.1 np35.symm rfl (hs_fitE mL35 (Nat.le_of_ble_eq_true rfl)))))) (rfl)))))))))
theorem b34_15 {t0 : Nat} {x1 : Int32} (o_t0 : ok10 S R t0) : hs_R scr (d + 1) 34 15 [some (.ref t0), some (.int x1), none] [] (S, I, L, R) = ((hs_C scr d 28 [.ref t0, .int 5] (S, I, L, R)).bind fun o => hs_R scr (d + 1) 34 20 [some (.ref t0), some (.int x1), none] (o.1.toList ++ []) o.2) := Eq.trans (r_al_n d34_15 rfl) (Eq.trans (r_ic d34_16 kI_5) (r_cvE (as := [.int 5]) (r := []) d34_17 c34_120 ow28 o_t0.2.1 np28.symm rfl (hs_fitE mL28 (Nat.le_of_ble_eq_true rfl))))
theorem b34_20 {t0 : Nat} {x1 s0 : Int32}  : hs_R scr d 34 20 [some (.ref t0), some (.int x1), none] [.int s0] (S, I, L, R) = some (some (.int s0), (S, I, L, R)) := r_ri d34_20 rt34
theorem b34_29 {t0 t0_9 : Nat} {x1 : Int32} (o_t0 : ok10 S R t0) (e_t0_9 : R t0 9 = t0_9) (o_t0_9 : ok4 S R t0_9) : hs_R scr (d + 1) 34 29 [some (.ref t0), some (.int x1), none] [] (S, I, L, R) = ((hs_C scr d 43 [.ref (t0 + 8), .ref (t0 + 2), .ref t0_9] (S, I, L, R)).bind fun o => hs_R scr (d + 1) 34 44 [some (.ref t0), some (.int x1), none] (o.1.toList ++ []) o.2) := Eq.trans (r_al_n d34_29 rfl) (Eq.trans (r_getRe d34_30 f34_25 o_t0.2.1 (o_t0.2.2.2.2.2.2.1) (Nat.le_trans o_t0.1 (Nat.le_add_right _ _))) (Eq.trans (r_al_n d34_33 rfl) (Eq.trans (r_getRe d34_34 f34_18 o_t0.2.1 (o_t0.2.2.2.2.1) (Nat.le_trans o_t0.1 (Nat.le_add_right _ _))) (Eq.trans (r_al_n d34_37 rfl) (Eq.trans (r_getRe d34_38 f34_64 o_t0.2.1 e_t0_9 o_t0_9.1) (r_cvE (as := [.ref (t0 + 2), .ref t0_9]) (r := []) d34_41 c34_157 ow43 (o_t0.2.2.2.2.2.2.2.1).2.1 np43.symm rfl (hs_fitE mL43 (Nat.le_of_ble_eq_true rfl))))))))
theorem b34_44 {t0 t0_8 t0_9 : Nat} {x1 s0 : Int32} (o_t0 : ok10 S R t0) (e_t0_8 : R t0 8 = t0_8) (o_t0_8 : ok4 S R t0_8) (e_t0_9 : R t0 9 = t0_9) (o_t0_9 : ok4 S R t0_9) : hs_R scr (d + 1) 34 44 [some (.ref t0), some (.int x1), none] [.int s0] (S, I, L, R) = (if s0 = 0 then ((hs_C scr d 28 [.ref t0, .int 10] (S, I, L, R)).bind fun o => hs_R scr (d + 1) 34 53 [some (.ref t0), some (.int x1), none] (o.1.toList ++ []) o.2) else hs_R scr (d + 1) 34 67 [some (.ref t0), some (.int x1), some (.ref t0_8)] [] (S, I, L, (hs_u R t0 8 t0_9))) := Eq.trans (r_zne d34_44 rfl) (q_ite (Eq.trans (r_al_n d34_47 rfl) (Eq.trans (r_bp d34_48 kB_10) (r_cvE (as := [.int 10]) (r := []) d34_50 c34_120 ow28 o_t0.2.1 np28.symm rfl (hs_fitE mL28 (Nat.le_of_ble_eq_true rfl))))) (Eq.trans (r_al_n d34_54 rfl) (Eq.trans (r_getRe d34_55 f34_60 o_t0.2.1 e_t0_8 o_t0_8.1) (Eq.trans (r_as_n (loc' := [some (.ref t0), some (.int x1), some (.ref t0_8)]) d34_58 rfl) (Eq.trans (r_al_n d34_59 rfl) (Eq.trans (r_al_n d34_60 rfl) (Eq.trans (r_getRe d34_61 f34_64 o_t0.2.1 e_t0_9 o_t0_9.1) (Eq.trans (r_putR d34_64 f34_60 o_t0.2.1 o_t0_9.1) (rfl)))))))))
theorem b34_53 {t0 : Nat} {x1 s0 : Int32}  : hs_R scr d 34 53 [some (.ref t0), some (.int x1), none] [.int s0] (S, I, L, R) = some (some (.int s0), (S, I, L, R)) := r_ri d34_53 rt34
theorem b34_67 {t0 t2 : Nat} {x1 : Int32} (o_t0 : ok10 S R t0) (o_t2 : ok4 S R t2) : hs_R scr d 34 67 [some (.ref t0), some (.int x1), some (.ref t2)] [] (S, I, L, R) = hs_R scr d 34 72 [some (.ref t0), some (.int x1), some (.ref t2)] [] (S, I, L, (hs_u R t0 9 t2)) := Eq.trans (r_al_n d34_67 rfl) (Eq.trans (r_al_n d34_68 rfl) (Eq.trans (r_putR d34_69 f34_64 o_t0.2.1 o_t2.1) (rfl)))
theorem b34_72 {t0 t2 t0_10 : Nat} {x1 : Int32} (o_t0 : ok10 S R t0) (e_t0_10 : R t0 10 = t0_10) (o_t0_10 : ok5 S R t0_10) : hs_R scr (d + 1) 34 72 [some (.ref t0), some (.int x1), some (.ref t2)] [] (S, I, L, R) = ((hs_C scr d 67 [.ref t0_10] (S, I, L, R)).bind fun o => hs_R scr (d + 1) 34 79 [some (.ref t0), some (.int x1), some (.ref t2)] (o.1.toList ++ []) o.2) := Eq.trans (r_al_n d34_72 rfl) (Eq.trans (r_getRe d34_73 f34_68 o_t0.2.1 e_t0_10 o_t0_10.1) (r_cvE (as := []) (r := []) d34_76 c34_161 ow67 o_t0_10.2.1 np67.symm rfl (hs_fitE mL67 (Nat.le_of_ble_eq_true rfl))))
theorem b34_79 {t0 t2 t0_8 : Nat} {x1 : Int32} (o_t0 : ok10 S R t0) (e_t0_8 : R t0 8 = t0_8) (o_t0_8 : ok4 S R t0_8) : hs_R scr (d + 1) 34 79 [some (.ref t0), some (.int x1), some (.ref t2)] [] (S, I, L, R) = ((hs_C scr d 68 [.ref t0, .int (I (t0_8 + 5) 4)] (S, I, L, R)).bind fun o => hs_R scr (d + 1) 34 93 [some (.ref t0), some (.int x1), some (.ref t2)] (o.1.toList ++ []) o.2) := Eq.trans (r_al_n d34_79 rfl) (Eq.trans (r_al_n d34_80 rfl) (Eq.trans (r_getRe d34_81 f34_60 o_t0.2.1 e_t0_8 o_t0_8.1) (Eq.trans (r_getRe d34_84 f34_164 o_t0_8.2.1 (o_t0_8.2.2.2.2.1) (Nat.le_trans o_t0_8.1 (Nat.le_add_right _ _))) (Eq.trans (r_getI d34_87 f34_168 (o_t0_8.2.2.2.2.2.1).2.1) (r_cvE (as := [.int (I (t0_8 + 5) 4)]) (r := []) d34_90 c34_173 ow68 o_t0.2.1 np68.symm rfl (hs_fitE mL68 (Nat.le_of_ble_eq_true rfl)))))))
theorem b34_93 {t0 t2 : Nat} {x1 s0 : Int32}  : hs_R scr d 34 93 [some (.ref t0), some (.int x1), some (.ref t2)] [.int s0] (S, I, L, R) = some (some (.int s0), (S, I, L, R)) := r_ri d34_93 rt34
theorem e68 {t0 : Nat} {x1 : Int32} : hs_C scr d 68 [.ref t0, .int x1] h = hs_R scr d 68 0 [some (.ref t0), some (.int x1)] [] h := by rw [hs_C, mL68]; rfl
theorem b68_0 {t0 : Nat} {x1 : Int32} (o_t0 : ok10 S R t0) : hs_R scr d 68 0 [some (.ref t0), some (.int x1)] [] (S, I, L, R) = some (some (.int x1), (S, (hs_u I t0 16 0), L, R)) := Eq.trans (r_al_n d68_0 rfl) (Eq.trans (r_ic d68_1 kI_0) (Eq.trans (r_putI d68_2 f68_90 o_t0.2.1) (Eq.trans (r_il_n d68_5 rfl) (r_ri d68_6 rt68))))
theorem e69 {t0 : Nat} {x1 : Int32} : hs_C scr d 69 [.ref t0, .int x1] h = hs_R scr d 69 0 [some (.ref t0), some (.int x1), none] [] h := by rw [hs_C, mL69]; rfl
theorem b69_0 {t0 : Nat} {x1 : Int32} (o_t0 : ok10 S R t0) : hs_R scr (d + 1) 69 0 [some (.ref t0), some (.int x1), none] [] (S, I, L, R) = (if x1 < 0 then hs_R scr (d + 1) 69 22 [some (.ref t0), some (.int x1), none] [] (S, I, L, R) else (if (I (t0 + 2) 5) < x1 then hs_R scr (d + 1) 69 22 [some (.ref t0), some (.int x1), none] [] (S, I, L, R) else (if x1 ≤ 300 then ((hs_C scr d 35 [.ref (t0 + 2), .int x1] (S, I, L, R)).bind fun o => hs_R scr (d + 1) 69 36 [some (.ref t0), some (.int x1), none] (o.1.toList ++ []) o.2) else hs_R scr (d + 1) 69 22 [some (.ref t0), some (.int x1), none] [] (S, I, L, R)))) := Eq.trans (r_il_n d69_0 rfl) (Eq.trans (r_zlt d69_1 rfl) (q_ite (rfl) (Eq.trans (r_il_n d69_4 rfl) (Eq.trans (r_al_n d69_5 rfl) (Eq.trans (r_getRe d69_6 f69_18 o_t0.2.1 (o_t0.2.2.2.2.1) (Nat.le_trans o_t0.1 (Nat.le_add_right _ _))) (Eq.trans (r_getI d69_9 f69_151 (o_t0.2.2.2.2.2.1).2.1) (Eq.trans (r_cgt d69_12 rfl) (q_ite (rfl) (Eq.trans (r_il_n d69_15 rfl) (Eq.trans (r_sp d69_16 kS_300) (Eq.trans (r_cle d69_19 rfl) (q_ite (Eq.trans (r_al_n d69_28 rfl) (Eq.trans (r_getRe d69_29 f69_18 o_t0.2.1 (o_t0.2.2.2.2.1) (Nat.le_trans o_t0.1 (Nat.le_add_right _ _))) (Eq.trans (r_il_n d69_32 rfl) (r_cvE (as := [.int x1]) (r := []) d69_33 c69_154 ow35 (o_t0.2.2.2.2.2.1).2.1 np35.symm rfl (hs_fitE mL35 (Nat.le_of_ble_eq_true rfl)))))) (rfl)))))))))))))
theorem b69_22 {t0 : Nat} {x1 : Int32} (o_t0 : ok10 S R t0) : hs_R scr (d + 1) 69 22 [some (.ref t0), some (.int x1), none] [] (S, I, L, R) = ((hs_C scr d 28 [.ref t0, .int 5] (S, I, L, R)).bind fun o => hs_R scr (d + 1) 69 27 [some (.ref t0), some (.int x1), none] (o.1.toList ++ []) o.2) := Eq.trans (r_al_n d69_22 rfl) (Eq.trans (r_ic d69_23 kI_5) (r_cvE (as := [.int 5]) (r := []) d69_24 c69_120 ow28 o_t0.2.1 np28.symm rfl (hs_fitE mL28 (Nat.le_of_ble_eq_true rfl))))
theorem b69_27 {t0 : Nat} {x1 s0 : Int32}  : hs_R scr d 69 27 [some (.ref t0), some (.int x1), none] [.int s0] (S, I, L, R) = some (some (.int s0), (S, I, L, R)) := r_ri d69_27 rt69
theorem b69_36 {t0 t0_11 t0_8 : Nat} {x1 : Int32} (o_t0 : ok10 S R t0) (e_t0_11 : R t0 11 = t0_11) (o_t0_11 : ok5 S R t0_11) (e_t0_8 : R t0 8 = t0_8) (o_t0_8 : ok4 S R t0_8) : hs_R scr (d + 1) 69 36 [some (.ref t0), some (.int x1), none] [] (S, I, L, R) = ((hs_C scr d 70 [.ref (t0 + 9), .ref (t0 + 2), .ref t0_11, .ref (t0_8 + 1)] (S, I, L, R)).bind fun o => hs_R scr (d + 1) 69 58 [some (.ref t0), some (.int x1), none] (o.1.toList ++ []) o.2) := Eq.trans (r_al_n d69_36 rfl) (Eq.trans (r_getRe d69_37 f69_32 o_t0.2.1 (o_t0.2.2.2.2.2.2.2.2.1) (Nat.le_trans o_t0.1 (Nat.le_add_right _ _))) (Eq.trans (r_al_n d69_40 rfl) (Eq.trans (r_getRe d69_41 f69_18 o_t0.2.1 (o_t0.2.2.2.2.1) (Nat.le_trans o_t0.1 (Nat.le_add_right _ _))) (Eq.trans (r_al_n d69_44 rfl) (Eq.trans (r_getRe d69_45 f69_72 o_t0.2.1 e_t0_11 o_t0_11.1) (Eq.trans (r_al_n d69_48 rfl) (Eq.trans (r_getRe d69_49 f69_60 o_t0.2.1 e_t0_8 o_t0_8.1) (Eq.trans (r_getRe d69_52 f69_176 o_t0_8.2.1 (o_t0_8.2.2.1) (Nat.le_trans o_t0_8.1 (Nat.le_add_right _ _))) (r_cvE (as := [.ref (t0 + 2), .ref t0_11, .ref (t0_8 + 1)]) (r := []) d69_55 c69_180 ow70 (o_t0.2.2.2.2.2.2.2.2.2.1).2.1 np70.symm rfl (hs_fitE mL70 (Nat.le_of_ble_eq_true rfl)))))))))))
theorem b69_58 {t0 t0_10 t0_11 : Nat} {x1 s0 : Int32} (o_t0 : ok10 S R t0) (e_t0_10 : R t0 10 = t0_10) (o_t0_10 : ok5 S R t0_10) (e_t0_11 : R t0 11 = t0_11) (o_t0_11 : ok5 S R t0_11) : hs_R scr (d + 1) 69 58 [some (.ref t0), some (.int x1), none] [.int s0] (S, I, L, R) = (if s0 = 0 then ((hs_C scr d 28 [.ref t0, .int 10] (S, I, L, R)).bind fun o => hs_R scr (d + 1) 69 67 [some (.ref t0), some (.int x1), none] (o.1.toList ++ []) o.2) else hs_R scr (d + 1) 69 81 [some (.ref t0), some (.int x1), some (.ref t0_10)] [] (S, I, L, (hs_u R t0 10 t0_11))) := Eq.trans (r_zne d69_58 rfl) (q_ite (Eq.trans (r_al_n d69_61 rfl) (Eq.trans (r_bp d69_62 kB_10) (r_cvE (as := [.int 10]) (r := []) d69_64 c69_120 ow28 o_t0.2.1 np28.symm rfl (hs_fitE mL28 (Nat.le_of_ble_eq_true rfl))))) (Eq.trans (r_al_n d69_68 rfl) (Eq.trans (r_getRe d69_69 f69_68 o_t0.2.1 e_t0_10 o_t0_10.1) (Eq.trans (r_as_n (loc' := [some (.ref t0), some (.int x1), some (.ref t0_10)]) d69_72 rfl) (Eq.trans (r_al_n d69_73 rfl) (Eq.trans (r_al_n d69_74 rfl) (Eq.trans (r_getRe d69_75 f69_72 o_t0.2.1 e_t0_11 o_t0_11.1) (Eq.trans (r_putR d69_78 f69_68 o_t0.2.1 o_t0_11.1) (rfl)))))))))
theorem b69_67 {t0 : Nat} {x1 s0 : Int32}  : hs_R scr d 69 67 [some (.ref t0), some (.int x1), none] [.int s0] (S, I, L, R) = some (some (.int s0), (S, I, L, R)) := r_ri d69_67 rt69
theorem b69_81 {t0 t2 : Nat} {x1 : Int32} (o_t0 : ok10 S R t0) (o_t2 : ok5 S R t2) : hs_R scr d 69 81 [some (.ref t0), some (.int x1), some (.ref t2)] [] (S, I, L, R) = hs_R scr d 69 86 [some (.ref t0), some (.int x1), some (.ref t2)] [] (S, I, L, (hs_u R t0 11 t2)) := Eq.trans (r_al_n d69_81 rfl) (Eq.trans (r_al_n d69_82 rfl) (Eq.trans (r_putR d69_83 f69_72 o_t0.2.1 o_t2.1) (rfl)))
theorem b69_86 {t0 t2 t0_10 : Nat} {x1 : Int32} (o_t0 : ok10 S R t0) (e_t0_10 : R t0 10 = t0_10) (o_t0_10 : ok5 S R t0_10) : hs_R scr (d + 1) 69 86 [some (.ref t0), some (.int x1), some (.ref t2)] [] (S, I, L, R) = ((hs_C scr d 68 [.ref t0, .int (I t0_10 6)] (S, I, L, R)).bind fun o => hs_R scr (d + 1) 69 97 [some (.ref t0), some (.int x1), some (.ref t2)] (o.1.toList ++ []) o.2) := Eq.trans (r_al_n d69_86 rfl) (Eq.trans (r_al_n d69_87 rfl) (Eq.trans (r_getRe d69_88 f69_68 o_t0.2.1 e_t0_10 o_t0_10.1) (Eq.trans (r_getI d69_91 f69_184 o_t0_10.2.1) (r_cvE (as := [.int (I t0_10 6)]) (r := []) d69_94 c69_173 ow68 o_t0.2.1 np68.symm rfl (hs_fitE mL68 (Nat.le_of_ble_eq_true rfl))))))
theorem b69_97 {t0 t2 : Nat} {x1 s0 : Int32}  : hs_R scr d 69 97 [some (.ref t0), some (.int x1), some (.ref t2)] [.int s0] (S, I, L, R) = some (some (.int s0), (S, I, L, R)) := r_ri d69_97 rt69
theorem e79 {t0 : Nat} {x1 : Int32} : hs_C scr d 79 [.ref t0, .int x1] h = hs_R scr d 79 0 [some (.ref t0), some (.int x1)] [] h := by rw [hs_C, mL79]; rfl
theorem b79_0 {t0 : Nat} {x1 : Int32} (o_t0 : ok10 S R t0) : hs_R scr d 79 0 [some (.ref t0), some (.int x1)] [] (S, I, L, R) = (if x1 = 0 then some (some (.int (I (t0 + 2) 11)), (S, I, L, R)) else (if x1 = 1 then hs_R scr d 79 28 [some (.ref t0), some (.int x1)] [.int (I (t0 + 2) 12)] (S, I, L, R) else hs_R scr d 79 28 [some (.ref t0), some (.int x1)] [.int (-1)] (S, I, L, R))) := Eq.trans (r_il_n d79_0 rfl) (Eq.trans (r_zne d79_1 rfl) (q_ite (Eq.trans (r_al_n d79_4 rfl) (Eq.trans (r_getRe d79_5 f79_18 o_t0.2.1 (o_t0.2.2.2.2.1) (Nat.le_trans o_t0.1 (Nat.le_add_right _ _))) (Eq.trans (r_getI d79_8 f79_187 (o_t0.2.2.2.2.2.1).2.1) (r_ri d79_11 rt79)))) (Eq.trans (r_il_n d79_12 rfl) (Eq.trans (r_ic d79_13 kI_1) (Eq.trans (r_cne d79_14 rfl) (q_ite (Eq.trans (r_al_n d79_17 rfl) (Eq.trans (r_getRe d79_18 f79_18 o_t0.2.1 (o_t0.2.2.2.2.1) (Nat.le_trans o_t0.1 (Nat.le_add_right _ _))) (Eq.trans (r_getI d79_21 f79_190 (o_t0.2.2.2.2.2.1).2.1) (Eq.trans (r_goto d79_24 rfl) (rfl))))) (Eq.trans (r_ic d79_27 kI_m1) (rfl))))))))
theorem b79_28 {t0 : Nat} {x1 s0 : Int32}  : hs_R scr d 79 28 [some (.ref t0), some (.int x1)] [.int s0] (S, I, L, R) = some (some (.int s0), (S, I, L, R)) := r_ri d79_28 rt79
theorem e80 {t0 : Nat} {x1 : Int32} : hs_C scr d 80 [.ref t0, .int x1] h = hs_R scr d 80 0 [some (.ref t0), some (.int x1)] [] h := by rw [hs_C, mL80]; rfl
theorem b80_0 {t0 t0_8 : Nat} {x1 : Int32} (o_t0 : ok10 S R t0) (e_t0_8 : R t0 8 = t0_8) (o_t0_8 : ok4 S R t0_8) : hs_R scr (d + 1) 80 0 [some (.ref t0), some (.int x1)] [] (S, I, L, R) = (if x1 < 0 then hs_R scr (d + 1) 80 10 [some (.ref t0), some (.int x1)] [] (S, I, L, R) else (if x1 ≤ 15 then (if (8 : Int32) ≤ x1 then ((hs_C scr d 82 [.ref t0_8, .int x1] (S, I, L, R)).bind fun o => hs_R scr (d + 1) 80 42 [some (.ref t0), some (.int x1)] (o.1.toList ++ [.ref t0]) o.2) else ((hs_C scr d 81 [.ref t0_8, .int x1] (S, I, L, R)).bind fun o => hs_R scr (d + 1) 80 31 [some (.ref t0), some (.int x1)] (o.1.toList ++ [.ref t0]) o.2)) else hs_R scr (d + 1) 80 10 [some (.ref t0), some (.int x1)] [] (S, I, L, R))) := Eq.trans (r_il_n d80_0 rfl) (Eq.trans (r_zlt d80_1 rfl) (q_ite (rfl) (Eq.trans (r_il_n d80_4 rfl) (Eq.trans (r_bp d80_5 kB_15) (Eq.trans (r_cle d80_7 rfl) (q_ite (Eq.trans (r_al_n d80_16 rfl) (Eq.trans (r_il_n d80_17 rfl) (Eq.trans (r_bp d80_18 kB_8) (Eq.trans (r_cge d80_20 rfl) (q_ite (Eq.trans (r_al_n d80_34 rfl) (Eq.trans (r_getRe d80_35 f80_60 o_t0.2.1 e_t0_8 o_t0_8.1) (Eq.trans (r_il_n d80_38 rfl) (r_cvE (as := [.int x1]) (r := [.ref t0]) d80_39 c80_196 ow82 o_t0_8.2.1 np82.symm rfl (hs_fitE mL82 (Nat.le_of_ble_eq_true rfl)))))) (Eq.trans (r_al_n d80_23 rfl) (Eq.trans (r_getRe d80_24 f80_60 o_t0.2.1 e_t0_8 o_t0_8.1) (Eq.trans (r_il_n d80_27 rfl) (r_cvE (as := [.int x1]) (r := [.ref t0]) d80_28 c80_193 ow81 o_t0_8.2.1 np81.symm rfl (hs_fitE mL81 (Nat.le_of_ble_eq_true rfl))))))))))) (rfl)))))))
theorem b80_10 {t0 : Nat} {x1 : Int32} (o_t0 : ok10 S R t0) : hs_R scr (d + 1) 80 10 [some (.ref t0), some (.int x1)] [] (S, I, L, R) = ((hs_C scr d 28 [.ref t0, .int 5] (S, I, L, R)).bind fun o => hs_R scr (d + 1) 80 15 [some (.ref t0), some (.int x1)] (o.1.toList ++ []) o.2) := Eq.trans (r_al_n d80_10 rfl) (Eq.trans (r_ic d80_11 kI_5) (r_cvE (as := [.int 5]) (r := []) d80_12 c80_120 ow28 o_t0.2.1 np28.symm rfl (hs_fitE mL28 (Nat.le_of_ble_eq_true rfl))))
theorem b80_15 {t0 : Nat} {x1 s0 : Int32}  : hs_R scr d 80 15 [some (.ref t0), some (.int x1)] [.int s0] (S, I, L, R) = some (some (.int s0), (S, I, L, R)) := r_ri d80_15 rt80
theorem b80_31 {t0 u0 : Nat} {x1 s1 : Int32}  : hs_R scr d 80 31 [some (.ref t0), some (.int x1)] [.int s1, .ref u0] (S, I, L, R) = hs_R scr d 80 42 [some (.ref t0), some (.int x1)] [.int s1, .ref u0] (S, I, L, R) := Eq.trans (r_goto d80_31 rfl) (rfl)
theorem b80_42 {t0 u0 : Nat} {x1 s1 : Int32} (o_u0 : ok10 S R u0) : hs_R scr (d + 1) 80 42 [some (.ref t0), some (.int x1)] [.int s1, .ref u0] (S, I, L, R) = ((hs_C scr d 68 [.ref u0, .int s1] (S, I, L, R)).bind fun o => hs_R scr (d + 1) 80 45 [some (.ref t0), some (.int x1)] (o.1.toList ++ []) o.2) := r_cvE (as := [.int s1]) (r := []) d80_42 c80_173 ow68 o_u0.2.1 np68.symm rfl (hs_fitE mL68 (Nat.le_of_ble_eq_true rfl))
theorem b80_45 {t0 : Nat} {x1 s0 : Int32}  : hs_R scr d 80 45 [some (.ref t0), some (.int x1)] [.int s0] (S, I, L, R) = some (some (.int s0), (S, I, L, R)) := r_ri d80_45 rt80
theorem e88 {t0 : Nat} {x1 : Int32} {x2 : Int32} : hs_C scr d 88 [.ref t0, .int x1, .int x2] h = hs_R scr d 88 0 [some (.ref t0), some (.int x1), some (.int x2), none] [] h := by rw [hs_C, mL88]; rfl
theorem b88_0 {t0 : Nat} {x1 x2 : Int32} (o_t0 : ok10 S R t0) : hs_R scr (d + 1) 88 0 [some (.ref t0), some (.int x1), some (.int x2), none] [] (S, I, L, R) = ((hs_C scr d 89 [.ref t0, .int x1] (S, I, L, R)).bind fun o => hs_R scr (d + 1) 88 5 [some (.ref t0), some (.int x1), some (.int x2), none] (o.1.toList ++ []) o.2) := Eq.trans (r_al_n d88_0 rfl) (Eq.trans (r_il_n d88_1 rfl) (r_cvE (as := [.int x1]) (r := []) d88_2 c88_199 ow89 o_t0.2.1 np89.symm rfl (hs_fitE mL89 (Nat.le_of_ble_eq_true rfl))))
theorem b88_5 {t0 t0_8 : Nat} {x1 x2 s0 : Int32} (o_t0 : ok10 S R t0) (e_t0_8 : R t0 8 = t0_8) (o_t0_8 : ok4 S R t0_8) : hs_R scr (d + 1) 88 5 [some (.ref t0), some (.int x1), some (.int x2), none] [.int s0] (S, I, L, R) = (if s0 = 0 then ((hs_C scr d 28 [.ref t0, .int 2] (S, I, L, R)).bind fun o => hs_R scr (d + 1) 88 13 [some (.ref t0), some (.int x1), some (.int x2), none] (o.1.toList ++ []) o.2) else hs_R scr (d + 1) 88 (hs_swt x2 0 3 [52, 63, 74, 85] 96) [some (.ref t0), some (.int x1), some (.int x2), some (.ref (t0_8 + 5))] [] (S, I, L, R)) := Eq.trans (r_zne d88_5 rfl) (q_ite (Eq.trans (r_al_n d88_8 rfl) (Eq.trans (r_ic d88_9 kI_2) (r_cvE (as := [.int 2]) (r := []) d88_10 c88_120 ow28 o_t0.2.1 np28.symm rfl (hs_fitE mL28 (Nat.le_of_ble_eq_true rfl))))) (Eq.trans (r_al_n d88_14 rfl) (Eq.trans (r_getRe d88_15 f88_60 o_t0.2.1 e_t0_8 o_t0_8.1) (Eq.trans (r_getRe d88_18 f88_164 o_t0_8.2.1 (o_t0_8.2.2.2.2.1) (Nat.le_trans o_t0_8.1 (Nat.le_add_right _ _))) (Eq.trans (r_as_n (loc' := [some (.ref t0), some (.int x1), some (.int x2), some (.ref (t0_8 + 5))]) d88_21 rfl) (Eq.trans (r_il_n d88_22 rfl) (r_tsw d88_23 rfl rfl rfl)))))))
theorem b88_13 {t0 : Nat} {x1 x2 s0 : Int32}  : hs_R scr d 88 13 [some (.ref t0), some (.int x1), some (.int x2), none] [.int s0] (S, I, L, R) = some (some (.int s0), (S, I, L, R)) := r_ri d88_13 rt88
theorem b88_52 {t0 t3 : Nat} {x1 x2 : Int32} (o_t3 : ok1 S R t3) (o_t0 : ok10 S R t0) : hs_R scr (d + 1) 88 52 [some (.ref t0), some (.int x1), some (.int x2), some (.ref t3)] [] (S, I, L, R) = (if hs_ib x1 8 = true then ((hs_C scr d 68 [.ref t0, .int (I (t3 + 1) (Int32.toNatClampNeg x1))] (S, I, L, R)).bind fun o => hs_R scr (d + 1) 88 62 [some (.ref t0), some (.int x1), some (.int x2), some (.ref t3)] (o.1.toList ++ []) o.2) else none) := Eq.trans (r_al_n d88_52 rfl) (Eq.trans (r_al_n d88_53 rfl) (Eq.trans (r_getRe d88_54 f88_202 o_t3.2.1 (o_t3.2.2.1) (Nat.le_trans o_t3.1 (Nat.le_add_right _ _))) (Eq.trans (r_il_n d88_57 rfl) (Eq.trans (r_iald d88_58 (o_t3.2.2.2.1)) (q_ite (r_cvE (as := [.int (I (t3 + 1) (Int32.toNatClampNeg x1))]) (r := []) d88_59 c88_173 ow68 o_t0.2.1 np68.symm rfl (hs_fitE mL68 (Nat.le_of_ble_eq_true rfl))) rfl)))))
theorem b88_62 {t0 t3 : Nat} {x1 x2 s0 : Int32}  : hs_R scr d 88 62 [some (.ref t0), some (.int x1), some (.int x2), some (.ref t3)] [.int s0] (S, I, L, R) = some (some (.int s0), (S, I, L, R)) := r_ri d88_62 rt88
theorem b88_63 {t0 t3 : Nat} {x1 x2 : Int32} (o_t3 : ok1 S R t3) (o_t0 : ok10 S R t0) : hs_R scr (d + 1) 88 63 [some (.ref t0), some (.int x1), some (.int x2), some (.ref t3)] [] (S, I, L, R) = (if hs_ib x1 8 = true then ((hs_C scr d 68 [.ref t0, .int (I (t3 + 2) (Int32.toNatClampNeg x1))] (S, I, L, R)).bind fun o => hs_R scr (d + 1) 88 73 [some (.ref t0), some (.int x1), some (.int x2), some (.ref t3)] (o.1.toList ++ []) o.2) else none) := Eq.trans (r_al_n d88_63 rfl) (Eq.trans (r_al_n d88_64 rfl) (Eq.trans (r_getRe d88_65 f88_205 o_t3.2.1 (o_t3.2.2.2.2.1) (Nat.le_trans o_t3.1 (Nat.le_add_right _ _))) (Eq.trans (r_il_n d88_68 rfl) (Eq.trans (r_iald d88_69 (o_t3.2.2.2.2.2.1)) (q_ite (r_cvE (as := [.int (I (t3 + 2) (Int32.toNatClampNeg x1))]) (r := []) d88_70 c88_173 ow68 o_t0.2.1 np68.symm rfl (hs_fitE mL68 (Nat.le_of_ble_eq_true rfl))) rfl)))))
theorem b88_73 {t0 t3 : Nat} {x1 x2 s0 : Int32}  : hs_R scr d 88 73 [some (.ref t0), some (.int x1), some (.int x2), some (.ref t3)] [.int s0] (S, I, L, R) = some (some (.int s0), (S, I, L, R)) := r_ri d88_73 rt88
theorem b88_74 {t0 t3 : Nat} {x1 x2 : Int32} (o_t3 : ok1 S R t3) (o_t0 : ok10 S R t0) : hs_R scr (d + 1) 88 74 [some (.ref t0), some (.int x1), some (.int x2), some (.ref t3)] [] (S, I, L, R) = (if hs_ib x1 8 = true then ((hs_C scr d 68 [.ref t0, .int (I (t3 + 3) (Int32.toNatClampNeg x1))] (S, I, L, R)).bind fun o => hs_R scr (d + 1) 88 84 [some (.ref t0), some (.int x1), some (.int x2), some (.ref t3)] (o.1.toList ++ []) o.2) else none) := Eq.trans (r_al_n d88_74 rfl) (Eq.trans (r_al_n d88_75 rfl) (Eq.trans (r_getRe d88_76 f88_208 o_t3.2.1 (o_t3.2.2.2.2.2.2.1) (Nat.le_trans o_t3.1 (Nat.le_add_right _ _))) (Eq.trans (r_il_n d88_79 rfl) (Eq.trans (r_iald d88_80 (o_t3.2.2.2.2.2.2.2.1)) (q_ite (r_cvE (as := [.int (I (t3 + 3) (Int32.toNatClampNeg x1))]) (r := []) d88_81 c88_173 ow68 o_t0.2.1 np68.symm rfl (hs_fitE mL68 (Nat.le_of_ble_eq_true rfl))) rfl)))))
theorem b88_84 {t0 t3 : Nat} {x1 x2 s0 : Int32}  : hs_R scr d 88 84 [some (.ref t0), some (.int x1), some (.int x2), some (.ref t3)] [.int s0] (S, I, L, R) = some (some (.int s0), (S, I, L, R)) := r_ri d88_84 rt88
theorem b88_85 {t0 t3 : Nat} {x1 x2 : Int32} (o_t3 : ok1 S R t3) (o_t0 : ok10 S R t0) : hs_R scr (d + 1) 88 85 [some (.ref t0), some (.int x1), some (.int x2), some (.ref t3)] [] (S, I, L, R) = (if hs_ib x1 8 = true then ((hs_C scr d 68 [.ref t0, .int (I (t3 + 4) (Int32.toNatClampNeg x1))] (S, I, L, R)).bind fun o => hs_R scr (d + 1) 88 95 [some (.ref t0), some (.int x1), some (.int x2), some (.ref t3)] (o.1.toList ++ []) o.2) else none) := Eq.trans (r_al_n d88_85 rfl) (Eq.trans (r_al_n d88_86 rfl) (Eq.trans (r_getRe d88_87 f88_211 o_t3.2.1 (o_t3.2.2.2.2.2.2.2.2.1) (Nat.le_trans o_t3.1 (Nat.le_add_right _ _))) (Eq.trans (r_il_n d88_90 rfl) (Eq.trans (r_iald d88_91 (o_t3.2.2.2.2.2.2.2.2.2)) (q_ite (r_cvE (as := [.int (I (t3 + 4) (Int32.toNatClampNeg x1))]) (r := []) d88_92 c88_173 ow68 o_t0.2.1 np68.symm rfl (hs_fitE mL68 (Nat.le_of_ble_eq_true rfl))) rfl)))))
theorem b88_95 {t0 t3 : Nat} {x1 x2 s0 : Int32}  : hs_R scr d 88 95 [some (.ref t0), some (.int x1), some (.int x2), some (.ref t3)] [.int s0] (S, I, L, R) = some (some (.int s0), (S, I, L, R)) := r_ri d88_95 rt88
theorem b88_96 {t0 t3 : Nat} {x1 x2 : Int32} (o_t0 : ok10 S R t0) : hs_R scr (d + 1) 88 96 [some (.ref t0), some (.int x1), some (.int x2), some (.ref t3)] [] (S, I, L, R) = ((hs_C scr d 28 [.ref t0, .int 5] (S, I, L, R)).bind fun o => hs_R scr (d + 1) 88 101 [some (.ref t0), some (.int x1), some (.int x2), some (.ref t3)] (o.1.toList ++ []) o.2) := Eq.trans (r_al_n d88_96 rfl) (Eq.trans (r_ic d88_97 kI_5) (r_cvE (as := [.int 5]) (r := []) d88_98 c88_120 ow28 o_t0.2.1 np28.symm rfl (hs_fitE mL28 (Nat.le_of_ble_eq_true rfl))))
theorem b88_101 {t0 t3 : Nat} {x1 x2 s0 : Int32}  : hs_R scr d 88 101 [some (.ref t0), some (.int x1), some (.int x2), some (.ref t3)] [.int s0] (S, I, L, R) = some (some (.int s0), (S, I, L, R)) := r_ri d88_101 rt88
theorem e89 {t0 : Nat} {x1 : Int32} : hs_C scr d 89 [.ref t0, .int x1] h = hs_R scr d 89 0 [some (.ref t0), some (.int x1)] [] h := by rw [hs_C, mL89]; rfl
theorem b89_0 {t0 t0_8 : Nat} {x1 : Int32} (o_t0 : ok10 S R t0) (e_t0_8 : R t0 8 = t0_8) (o_t0_8 : ok4 S R t0_8) : hs_R scr d 89 0 [some (.ref t0), some (.int x1)] [] (S, I, L, R) = (if x1 < 0 then hs_R scr d 89 22 [some (.ref t0), some (.int x1)] [] (S, I, L, R) else (if (I (t0_8 + 5) 4) ≤ x1 then hs_R scr d 89 22 [some (.ref t0), some (.int x1)] [] (S, I, L, R) else hs_R scr d 89 23 [some (.ref t0), some (.int x1)] [.int 1] (S, I, L, R))) := Eq.trans (r_il_n d89_0 rfl) (Eq.trans (r_zlt d89_1 rfl) (q_ite (rfl) (Eq.trans (r_il_n d89_4 rfl) (Eq.trans (r_al_n d89_5 rfl) (Eq.trans (r_getRe d89_6 f89_60 o_t0.2.1 e_t0_8 o_t0_8.1) (Eq.trans (r_getRe d89_9 f89_164 o_t0_8.2.1 (o_t0_8.2.2.2.2.1) (Nat.le_trans o_t0_8.1 (Nat.le_add_right _ _))) (Eq.trans (r_getI d89_12 f89_168 (o_t0_8.2.2.2.2.2.1).2.1) (Eq.trans (r_cge d89_15 rfl) (q_ite (rfl) (Eq.trans (r_ic d89_18 kI_1) (Eq.trans (r_goto d89_19 rfl) (rfl))))))))))))
theorem b89_22 {t0 : Nat} {x1 : Int32}  : hs_R scr d 89 22 [some (.ref t0), some (.int x1)] [] (S, I, L, R) = hs_R scr d 89 23 [some (.ref t0), some (.int x1)] [.int 0] (S, I, L, R) := Eq.trans (r_ic d89_22 kI_0) (rfl)
theorem b89_23 {t0 : Nat} {x1 s0 : Int32}  : hs_R scr d 89 23 [some (.ref t0), some (.int x1)] [.int s0] (S, I, L, R) = (if s0 = 0 ∨ s0 = 1 then some (some (.int s0), (S, I, L, R)) else none) := r_rz d89_23 rt89
theorem e90 {t0 : Nat} {x1 : Int32} {x2 : Int32} : hs_C scr d 90 [.ref t0, .int x1, .int x2] h = hs_R scr d 90 0 [some (.ref t0), some (.int x1), some (.int x2)] [] h := by rw [hs_C, mL90]; rfl
theorem b90_0 {t0 : Nat} {x1 x2 : Int32} (o_t0 : ok10 S R t0) : hs_R scr (d + 1) 90 0 [some (.ref t0), some (.int x1), some (.int x2)] [] (S, I, L, R) = ((hs_C scr d 91 [.ref t0, .int x1] (S, I, L, R)).bind fun o => hs_R scr (d + 1) 90 5 [some (.ref t0), some (.int x1), some (.int x2)] (o.1.toList ++ []) o.2) := Eq.trans (r_al_n d90_0 rfl) (Eq.trans (r_il_n d90_1 rfl) (r_cvE (as := [.int x1]) (r := []) d90_2 c90_214 ow91 o_t0.2.1 np91.symm rfl (hs_fitE mL91 (Nat.le_of_ble_eq_true rfl))))
theorem b90_5 {t0 : Nat} {x1 x2 s0 : Int32} (o_t0 : ok10 S R t0) : hs_R scr (d + 1) 90 5 [some (.ref t0), some (.int x1), some (.int x2)] [.int s0] (S, I, L, R) = (if s0 = 0 then ((hs_C scr d 28 [.ref t0, .int 2] (S, I, L, R)).bind fun o => hs_R scr (d + 1) 90 13 [some (.ref t0), some (.int x1), some (.int x2)] (o.1.toList ++ []) o.2) else (if x2 = 0 then hs_R scr (d + 1) 90 29 [some (.ref t0), some (.int x1), some (.int x2)] [] (S, I, L, R) else (if x2 = 1 then hs_R scr (d + 1) 90 29 [some (.ref t0), some (.int x1), some (.int x2)] [] (S, I, L, R) else ((hs_C scr d 28 [.ref t0, .int 5] (S, I, L, R)).bind fun o => hs_R scr (d + 1) 90 28 [some (.ref t0), some (.int x1), some (.int x2)] (o.1.toList ++ []) o.2)))) := Eq.trans (r_zne d90_5 rfl) (q_ite (Eq.trans (r_al_n d90_8 rfl) (Eq.trans (r_ic d90_9 kI_2) (r_cvE (as := [.int 2]) (r := []) d90_10 c90_120 ow28 o_t0.2.1 np28.symm rfl (hs_fitE mL28 (Nat.le_of_ble_eq_true rfl))))) (Eq.trans (r_il_n d90_14 rfl) (Eq.trans (r_zeq d90_15 rfl) (q_ite (rfl) (Eq.trans (r_il_n d90_18 rfl) (Eq.trans (r_ic d90_19 kI_1) (Eq.trans (r_ceq d90_20 rfl) (q_ite (rfl) (Eq.trans (r_al_n d90_23 rfl) (Eq.trans (r_ic d90_24 kI_5) (r_cvE (as := [.int 5]) (r := []) d90_25 c90_120 ow28 o_t0.2.1 np28.symm rfl (hs_fitE mL28 (Nat.le_of_ble_eq_true rfl)))))))))))))
theorem b90_13 {t0 : Nat} {x1 x2 s0 : Int32}  : hs_R scr d 90 13 [some (.ref t0), some (.int x1), some (.int x2)] [.int s0] (S, I, L, R) = some (some (.int s0), (S, I, L, R)) := r_ri d90_13 rt90
theorem b90_28 {t0 : Nat} {x1 x2 s0 : Int32}  : hs_R scr d 90 28 [some (.ref t0), some (.int x1), some (.int x2)] [.int s0] (S, I, L, R) = some (some (.int s0), (S, I, L, R)) := r_ri d90_28 rt90
theorem b90_29 {t0 t0_8 : Nat} {x1 x2 : Int32} (o_t0 : ok10 S R t0) (e_t0_8 : R t0 8 = t0_8) (o_t0_8 : ok4 S R t0_8) : hs_R scr d 90 29 [some (.ref t0), some (.int x1), some (.int x2)] [] (S, I, L, R) = (if x2 = 0 then (if hs_ib x1 5 = true then hs_R scr d 90 55 [some (.ref t0), some (.int x1), some (.int x2)] [.int (I (t0_8 + 10) (Int32.toNatClampNeg x1)), .ref t0] (S, I, L, R) else none) else (if hs_ib x1 5 = true then hs_R scr d 90 55 [some (.ref t0), some (.int x1), some (.int x2)] [.int (I (t0_8 + 11) (Int32.toNatClampNeg x1)), .ref t0] (S, I, L, R) else none)) := Eq.trans (r_al_n d90_29 rfl) (Eq.trans (r_il_n d90_30 rfl) (Eq.trans (r_zne d90_31 rfl) (q_ite (Eq.trans (r_al_n d90_34 rfl) (Eq.trans (r_getRe d90_35 f90_60 o_t0.2.1 e_t0_8 o_t0_8.1) (Eq.trans (r_getRe d90_38 f90_217 o_t0_8.2.1 (o_t0_8.2.2.2.2.2.2.1) (Nat.le_trans o_t0_8.1 (Nat.le_add_right _ _))) (Eq.trans (r_il_n d90_41 rfl) (Eq.trans (r_iald d90_42 (o_t0_8.2.2.2.2.2.2.2.1)) (q_ite (Eq.trans (r_goto d90_43 rfl) (rfl)) rfl)))))) (Eq.trans (r_al_n d90_46 rfl) (Eq.trans (r_getRe d90_47 f90_60 o_t0.2.1 e_t0_8 o_t0_8.1) (Eq.trans (r_getRe d90_50 f90_220 o_t0_8.2.1 (o_t0_8.2.2.2.2.2.2.2.2.1) (Nat.le_trans o_t0_8.1 (Nat.le_add_right _ _))) (Eq.trans (r_il_n d90_53 rfl) (Eq.trans (r_iald d90_54 (o_t0_8.2.2.2.2.2.2.2.2.2.1)) (q_ite (rfl) rfl)))))))))
theorem b90_55 {t0 u0 : Nat} {x1 x2 s1 : Int32} (o_u0 : ok10 S R u0) : hs_R scr (d + 1) 90 55 [some (.ref t0), some (.int x1), some (.int x2)] [.int s1, .ref u0] (S, I, L, R) = ((hs_C scr d 68 [.ref u0, .int s1] (S, I, L, R)).bind fun o => hs_R scr (d + 1) 90 58 [some (.ref t0), some (.int x1), some (.int x2)] (o.1.toList ++ []) o.2) := r_cvE (as := [.int s1]) (r := []) d90_55 c90_173 ow68 o_u0.2.1 np68.symm rfl (hs_fitE mL68 (Nat.le_of_ble_eq_true rfl))
theorem b90_58 {t0 : Nat} {x1 x2 s0 : Int32}  : hs_R scr d 90 58 [some (.ref t0), some (.int x1), some (.int x2)] [.int s0] (S, I, L, R) = some (some (.int s0), (S, I, L, R)) := r_ri d90_58 rt90
theorem e91 {t0 : Nat} {x1 : Int32} : hs_C scr d 91 [.ref t0, .int x1] h = hs_R scr d 91 0 [some (.ref t0), some (.int x1)] [] h := by rw [hs_C, mL91]; rfl
theorem b91_0 {t0 t0_8 : Nat} {x1 : Int32} (o_t0 : ok10 S R t0) (e_t0_8 : R t0 8 = t0_8) (o_t0_8 : ok4 S R t0_8) : hs_R scr d 91 0 [some (.ref t0), some (.int x1)] [] (S, I, L, R) = (if x1 < 0 then hs_R scr d 91 19 [some (.ref t0), some (.int x1)] [] (S, I, L, R) else (if (I t0_8 8) ≤ x1 then hs_R scr d 91 19 [some (.ref t0), some (.int x1)] [] (S, I, L, R) else hs_R scr d 91 20 [some (.ref t0), some (.int x1)] [.int 1] (S, I, L, R))) := Eq.trans (r_il_n d91_0 rfl) (Eq.trans (r_zlt d91_1 rfl) (q_ite (rfl) (Eq.trans (r_il_n d91_4 rfl) (Eq.trans (r_al_n d91_5 rfl) (Eq.trans (r_getRe d91_6 f91_60 o_t0.2.1 e_t0_8 o_t0_8.1) (Eq.trans (r_getI d91_9 f91_399 o_t0_8.2.1) (Eq.trans (r_cge d91_12 rfl) (q_ite (rfl) (Eq.trans (r_ic d91_15 kI_1) (Eq.trans (r_goto d91_16 rfl) (rfl)))))))))))
theorem b91_19 {t0 : Nat} {x1 : Int32}  : hs_R scr d 91 19 [some (.ref t0), some (.int x1)] [] (S, I, L, R) = hs_R scr d 91 20 [some (.ref t0), some (.int x1)] [.int 0] (S, I, L, R) := Eq.trans (r_ic d91_19 kI_0) (rfl)
theorem b91_20 {t0 : Nat} {x1 s0 : Int32}  : hs_R scr d 91 20 [some (.ref t0), some (.int x1)] [.int s0] (S, I, L, R) = (if s0 = 0 ∨ s0 = 1 then some (some (.int s0), (S, I, L, R)) else none) := r_rz d91_20 rt91
theorem e92 {t0 : Nat} : hs_C scr d 92 [.ref t0] h = hs_R scr d 92 0 [some (.ref t0)] [] h := by rw [hs_C, mL92]; rfl
theorem b92_0 {t0 t0_8 : Nat} (o_t0 : ok10 S R t0) (e_t0_8 : R t0 8 = t0_8) (o_t0_8 : ok4 S R t0_8) : hs_R scr (d + 1) 92 0 [some (.ref t0)] [] (S, I, L, R) = (if (0 : Int32) ≤ (I t0_8 17) then ((hs_C scr d 68 [.ref t0, .int (I t0_8 17)] (S, I, L, R)).bind fun o => hs_R scr (d + 1) 92 30 [some (.ref t0)] (o.1.toList ++ []) o.2) else ((hs_C scr d 28 [.ref t0, .int 8] (S, I, L, R)).bind fun o => hs_R scr (d + 1) 92 16 [some (.ref t0)] (o.1.toList ++ []) o.2)) := Eq.trans (r_al_n d92_0 rfl) (Eq.trans (r_getRe d92_1 f92_60 o_t0.2.1 e_t0_8 o_t0_8.1) (Eq.trans (r_getI d92_4 f92_223 o_t0_8.2.1) (Eq.trans (r_zge d92_7 rfl) (q_ite (Eq.trans (r_al_n d92_19 rfl) (Eq.trans (r_al_n d92_20 rfl) (Eq.trans (r_getRe d92_21 f92_60 o_t0.2.1 e_t0_8 o_t0_8.1) (Eq.trans (r_getI d92_24 f92_223 o_t0_8.2.1) (r_cvE (as := [.int (I t0_8 17)]) (r := []) d92_27 c92_173 ow68 o_t0.2.1 np68.symm rfl (hs_fitE mL68 (Nat.le_of_ble_eq_true rfl))))))) (Eq.trans (r_al_n d92_10 rfl) (Eq.trans (r_bp d92_11 kB_8) (r_cvE (as := [.int 8]) (r := []) d92_13 c92_120 ow28 o_t0.2.1 np28.symm rfl (hs_fitE mL28 (Nat.le_of_ble_eq_true rfl)))))))))
theorem b92_16 {t0 : Nat} {s0 : Int32}  : hs_R scr d 92 16 [some (.ref t0)] [.int s0] (S, I, L, R) = hs_R scr d 92 30 [some (.ref t0)] [.int s0] (S, I, L, R) := Eq.trans (r_goto d92_16 rfl) (rfl)
theorem b92_30 {t0 : Nat} {s0 : Int32}  : hs_R scr d 92 30 [some (.ref t0)] [.int s0] (S, I, L, R) = some (some (.int s0), (S, I, L, R)) := r_ri d92_30 rt92
theorem e93 {t0 : Nat} {x1 : Int32} : hs_C scr d 93 [.ref t0, .int x1] h = hs_R scr d 93 0 [some (.ref t0), some (.int x1)] [] h := by rw [hs_C, mL93]; rfl
theorem b93_0 {t0 t0_8 : Nat} {x1 : Int32} (o_t0 : ok10 S R t0) (e_t0_8 : R t0 8 = t0_8) (o_t0_8 : ok4 S R t0_8) : hs_R scr (d + 1) 93 0 [some (.ref t0), some (.int x1)] [] (S, I, L, R) = (if x1 < 0 then hs_R scr (d + 1) 93 15 [some (.ref t0), some (.int x1)] [] (S, I, L, R) else (if x1 < (I t0_8 9) then (if hs_ib x1 6 = true then ((hs_C scr d 68 [.ref t0, .int (I (t0_8 + 12) (Int32.toNatClampNeg x1))] (S, I, L, R)).bind fun o => hs_R scr (d + 1) 93 34 [some (.ref t0), some (.int x1)] (o.1.toList ++ []) o.2) else none) else hs_R scr (d + 1) 93 15 [some (.ref t0), some (.int x1)] [] (S, I, L, R))) := Eq.trans (r_il_n d93_0 rfl) (Eq.trans (r_zlt d93_1 rfl) (q_ite (rfl) (Eq.trans (r_il_n d93_4 rfl) (Eq.trans (r_al_n d93_5 rfl) (Eq.trans (r_getRe d93_6 f93_60 o_t0.2.1 e_t0_8 o_t0_8.1) (Eq.trans (r_getI d93_9 f93_226 o_t0_8.2.1) (Eq.trans (r_clt d93_12 rfl) (q_ite (Eq.trans (r_al_n d93_21 rfl) (Eq.trans (r_al_n d93_22 rfl) (Eq.trans (r_getRe d93_23 f93_60 o_t0.2.1 e_t0_8 o_t0_8.1) (Eq.trans (r_getRe d93_26 f93_229 o_t0_8.2.1 (o_t0_8.2.2.2.2.2.2.2.2.2.2.1) (Nat.le_trans o_t0_8.1 (Nat.le_add_right _ _))) (Eq.trans (r_il_n d93_29 rfl) (Eq.trans (r_iald d93_30 (o_t0_8.2.2.2.2.2.2.2.2.2.2.2.1)) (q_ite (r_cvE (as := [.int (I (t0_8 + 12) (Int32.toNatClampNeg x1))]) (r := []) d93_31 c93_173 ow68 o_t0.2.1 np68.symm rfl (hs_fitE mL68 (Nat.le_of_ble_eq_true rfl))) rfl))))))) (rfl)))))))))
theorem b93_15 {t0 : Nat} {x1 : Int32} (o_t0 : ok10 S R t0) : hs_R scr (d + 1) 93 15 [some (.ref t0), some (.int x1)] [] (S, I, L, R) = ((hs_C scr d 28 [.ref t0, .int 2] (S, I, L, R)).bind fun o => hs_R scr (d + 1) 93 20 [some (.ref t0), some (.int x1)] (o.1.toList ++ []) o.2) := Eq.trans (r_al_n d93_15 rfl) (Eq.trans (r_ic d93_16 kI_2) (r_cvE (as := [.int 2]) (r := []) d93_17 c93_120 ow28 o_t0.2.1 np28.symm rfl (hs_fitE mL28 (Nat.le_of_ble_eq_true rfl))))
theorem b93_20 {t0 : Nat} {x1 s0 : Int32}  : hs_R scr d 93 20 [some (.ref t0), some (.int x1)] [.int s0] (S, I, L, R) = some (some (.int s0), (S, I, L, R)) := r_ri d93_20 rt93
theorem b93_34 {t0 : Nat} {x1 s0 : Int32}  : hs_R scr d 93 34 [some (.ref t0), some (.int x1)] [.int s0] (S, I, L, R) = some (some (.int s0), (S, I, L, R)) := r_ri d93_34 rt93
theorem e94 {t0 : Nat} {x1 : Int32} {x2 : Int32} : hs_C scr d 94 [.ref t0, .int x1, .int x2] h = hs_R scr d 94 0 [some (.ref t0), some (.int x1), some (.int x2)] [] h := by rw [hs_C, mL94]; rfl
theorem b94_0 {t0 : Nat} {x1 x2 : Int32} (o_t0 : ok10 S R t0) : hs_R scr (d + 1) 94 0 [some (.ref t0), some (.int x1), some (.int x2)] [] (S, I, L, R) = ((hs_C scr d 95 [.ref t0, .int x1] (S, I, L, R)).bind fun o => hs_R scr (d + 1) 94 5 [some (.ref t0), some (.int x1), some (.int x2)] (o.1.toList ++ []) o.2) := Eq.trans (r_al_n d94_0 rfl) (Eq.trans (r_il_n d94_1 rfl) (r_cvE (as := [.int x1]) (r := []) d94_2 c94_232 ow95 o_t0.2.1 np95.symm rfl (hs_fitE mL95 (Nat.le_of_ble_eq_true rfl))))
theorem b94_5 {t0 : Nat} {x1 x2 s0 : Int32} (o_t0 : ok10 S R t0) : hs_R scr (d + 1) 94 5 [some (.ref t0), some (.int x1), some (.int x2)] [.int s0] (S, I, L, R) = (if s0 = 0 then hs_R scr (d + 1) 94 16 [some (.ref t0), some (.int x1), some (.int x2)] [] (S, I, L, R) else ((hs_C scr d 89 [.ref t0, .int x2] (S, I, L, R)).bind fun o => hs_R scr (d + 1) 94 13 [some (.ref t0), some (.int x1), some (.int x2)] (o.1.toList ++ []) o.2)) := Eq.trans (r_zeq d94_5 rfl) (q_ite (rfl) (Eq.trans (r_al_n d94_8 rfl) (Eq.trans (r_il_n d94_9 rfl) (r_cvE (as := [.int x2]) (r := []) d94_10 c94_199 ow89 o_t0.2.1 np89.symm rfl (hs_fitE mL89 (Nat.le_of_ble_eq_true rfl))))))
theorem b94_13 {t0 t0_8 : Nat} {x1 x2 s0 : Int32} (o_t0 : ok10 S R t0) (e_t0_8 : R t0 8 = t0_8) (o_t0_8 : ok4 S R t0_8) : hs_R scr (d + 1) 94 13 [some (.ref t0), some (.int x1), some (.int x2)] [.int s0] (S, I, L, R) = (if s0 = 0 then hs_R scr (d + 1) 94 16 [some (.ref t0), some (.int x1), some (.int x2)] [] (S, I, L, R) else ((hs_C scr d 96 [.ref t0_8, .int x1, .int x2] (S, I, L, R)).bind fun o => hs_R scr (d + 1) 94 32 [some (.ref t0), some (.int x1), some (.int x2)] (o.1.toList ++ [.ref t0]) o.2)) := Eq.trans (r_zne d94_13 rfl) (q_ite (rfl) (Eq.trans (r_al_n d94_22 rfl) (Eq.trans (r_al_n d94_23 rfl) (Eq.trans (r_getRe d94_24 f94_60 o_t0.2.1 e_t0_8 o_t0_8.1) (Eq.trans (r_il_n d94_27 rfl) (Eq.trans (r_il_n d94_28 rfl) (r_cvE (as := [.int x1, .int x2]) (r := [.ref t0]) d94_29 c94_235 ow96 o_t0_8.2.1 np96.symm rfl (hs_fitE mL96 (Nat.le_of_ble_eq_true rfl)))))))))
theorem b94_16 {t0 : Nat} {x1 x2 : Int32} (o_t0 : ok10 S R t0) : hs_R scr (d + 1) 94 16 [some (.ref t0), some (.int x1), some (.int x2)] [] (S, I, L, R) = ((hs_C scr d 28 [.ref t0, .int 2] (S, I, L, R)).bind fun o => hs_R scr (d + 1) 94 21 [some (.ref t0), some (.int x1), some (.int x2)] (o.1.toList ++ []) o.2) := Eq.trans (r_al_n d94_16 rfl) (Eq.trans (r_ic d94_17 kI_2) (r_cvE (as := [.int 2]) (r := []) d94_18 c94_120 ow28 o_t0.2.1 np28.symm rfl (hs_fitE mL28 (Nat.le_of_ble_eq_true rfl))))
theorem b94_21 {t0 : Nat} {x1 x2 s0 : Int32}  : hs_R scr d 94 21 [some (.ref t0), some (.int x1), some (.int x2)] [.int s0] (S, I, L, R) = some (some (.int s0), (S, I, L, R)) := r_ri d94_21 rt94
theorem b94_32 {t0 u0 : Nat} {x1 x2 s1 : Int32} (o_u0 : ok10 S R u0) : hs_R scr (d + 1) 94 32 [some (.ref t0), some (.int x1), some (.int x2)] [.int s1, .ref u0] (S, I, L, R) = ((hs_C scr d 68 [.ref u0, .int s1] (S, I, L, R)).bind fun o => hs_R scr (d + 1) 94 35 [some (.ref t0), some (.int x1), some (.int x2)] (o.1.toList ++ []) o.2) := r_cvE (as := [.int s1]) (r := []) d94_32 c94_173 ow68 o_u0.2.1 np68.symm rfl (hs_fitE mL68 (Nat.le_of_ble_eq_true rfl))
theorem b94_35 {t0 : Nat} {x1 x2 s0 : Int32}  : hs_R scr d 94 35 [some (.ref t0), some (.int x1), some (.int x2)] [.int s0] (S, I, L, R) = some (some (.int s0), (S, I, L, R)) := r_ri d94_35 rt94
theorem e95 {t0 : Nat} {x1 : Int32} : hs_C scr d 95 [.ref t0, .int x1] h = hs_R scr d 95 0 [some (.ref t0), some (.int x1)] [] h := by rw [hs_C, mL95]; rfl
theorem b95_0 {t0 t0_8 : Nat} {x1 : Int32} (o_t0 : ok10 S R t0) (e_t0_8 : R t0 8 = t0_8) (o_t0_8 : ok4 S R t0_8) : hs_R scr d 95 0 [some (.ref t0), some (.int x1)] [] (S, I, L, R) = (if x1 < 0 then hs_R scr d 95 19 [some (.ref t0), some (.int x1)] [] (S, I, L, R) else (if (I t0_8 10) ≤ x1 then hs_R scr d 95 19 [some (.ref t0), some (.int x1)] [] (S, I, L, R) else hs_R scr d 95 20 [some (.ref t0), some (.int x1)] [.int 1] (S, I, L, R))) := Eq.trans (r_il_n d95_0 rfl) (Eq.trans (r_zlt d95_1 rfl) (q_ite (rfl) (Eq.trans (r_il_n d95_4 rfl) (Eq.trans (r_al_n d95_5 rfl) (Eq.trans (r_getRe d95_6 f95_60 o_t0.2.1 e_t0_8 o_t0_8.1) (Eq.trans (r_getI d95_9 f95_290 o_t0_8.2.1) (Eq.trans (r_cge d95_12 rfl) (q_ite (rfl) (Eq.trans (r_ic d95_15 kI_1) (Eq.trans (r_goto d95_16 rfl) (rfl)))))))))))
theorem b95_19 {t0 : Nat} {x1 : Int32}  : hs_R scr d 95 19 [some (.ref t0), some (.int x1)] [] (S, I, L, R) = hs_R scr d 95 20 [some (.ref t0), some (.int x1)] [.int 0] (S, I, L, R) := Eq.trans (r_ic d95_19 kI_0) (rfl)
theorem b95_20 {t0 : Nat} {x1 s0 : Int32}  : hs_R scr d 95 20 [some (.ref t0), some (.int x1)] [.int s0] (S, I, L, R) = (if s0 = 0 ∨ s0 = 1 then some (some (.int s0), (S, I, L, R)) else none) := r_rz d95_20 rt95
theorem e97 {t0 : Nat} {x1 : Int32} {x2 : Int32} : hs_C scr d 97 [.ref t0, .int x1, .int x2] h = hs_R scr d 97 0 [some (.ref t0), some (.int x1), some (.int x2)] [] h := by rw [hs_C, mL97]; rfl
theorem b97_0 {t0 t0_8 : Nat} {x1 x2 : Int32} (o_t0 : ok10 S R t0) (e_t0_8 : R t0 8 = t0_8) (o_t0_8 : ok4 S R t0_8) : hs_R scr (d + 1) 97 0 [some (.ref t0), some (.int x1), some (.int x2)] [] (S, I, L, R) = (if x1 < 0 then hs_R scr (d + 1) 97 15 [some (.ref t0), some (.int x1), some (.int x2)] [] (S, I, L, R) else (if x1 < (I t0_8 12) then (if x2 = 0 then hs_R scr (d + 1) 97 36 [some (.ref t0), some (.int x1), some (.int x2)] [] (S, I, L, R) else (if x2 = 1 then hs_R scr (d + 1) 97 36 [some (.ref t0), some (.int x1), some (.int x2)] [] (S, I, L, R) else ((hs_C scr d 28 [.ref t0, .int 5] (S, I, L, R)).bind fun o => hs_R scr (d + 1) 97 35 [some (.ref t0), some (.int x1), some (.int x2)] (o.1.toList ++ []) o.2))) else hs_R scr (d + 1) 97 15 [some (.ref t0), some (.int x1), some (.int x2)] [] (S, I, L, R))) := Eq.trans (r_il_n d97_0 rfl) (Eq.trans (r_zlt d97_1 rfl) (q_ite (rfl) (Eq.trans (r_il_n d97_4 rfl) (Eq.trans (r_al_n d97_5 rfl) (Eq.trans (r_getRe d97_6 f97_60 o_t0.2.1 e_t0_8 o_t0_8.1) (Eq.trans (r_getI d97_9 f97_238 o_t0_8.2.1) (Eq.trans (r_clt d97_12 rfl) (q_ite (Eq.trans (r_il_n d97_21 rfl) (Eq.trans (r_zeq d97_22 rfl) (q_ite (rfl) (Eq.trans (r_il_n d97_25 rfl) (Eq.trans (r_ic d97_26 kI_1) (Eq.trans (r_ceq d97_27 rfl) (q_ite (rfl) (Eq.trans (r_al_n d97_30 rfl) (Eq.trans (r_ic d97_31 kI_5) (r_cvE (as := [.int 5]) (r := []) d97_32 c97_120 ow28 o_t0.2.1 np28.symm rfl (hs_fitE mL28 (Nat.le_of_ble_eq_true rfl)))))))))))) (rfl)))))))))
theorem b97_15 {t0 : Nat} {x1 x2 : Int32} (o_t0 : ok10 S R t0) : hs_R scr (d + 1) 97 15 [some (.ref t0), some (.int x1), some (.int x2)] [] (S, I, L, R) = ((hs_C scr d 28 [.ref t0, .int 2] (S, I, L, R)).bind fun o => hs_R scr (d + 1) 97 20 [some (.ref t0), some (.int x1), some (.int x2)] (o.1.toList ++ []) o.2) := Eq.trans (r_al_n d97_15 rfl) (Eq.trans (r_ic d97_16 kI_2) (r_cvE (as := [.int 2]) (r := []) d97_17 c97_120 ow28 o_t0.2.1 np28.symm rfl (hs_fitE mL28 (Nat.le_of_ble_eq_true rfl))))
theorem b97_20 {t0 : Nat} {x1 x2 s0 : Int32}  : hs_R scr d 97 20 [some (.ref t0), some (.int x1), some (.int x2)] [.int s0] (S, I, L, R) = some (some (.int s0), (S, I, L, R)) := r_ri d97_20 rt97
theorem b97_35 {t0 : Nat} {x1 x2 s0 : Int32}  : hs_R scr d 97 35 [some (.ref t0), some (.int x1), some (.int x2)] [.int s0] (S, I, L, R) = some (some (.int s0), (S, I, L, R)) := r_ri d97_35 rt97
theorem b97_36 {t0 t0_8 : Nat} {x1 x2 : Int32} (o_t0 : ok10 S R t0) (e_t0_8 : R t0 8 = t0_8) (o_t0_8 : ok4 S R t0_8) : hs_R scr d 97 36 [some (.ref t0), some (.int x1), some (.int x2)] [] (S, I, L, R) = (if x2 = 0 then (if hs_ib x1 10 = true then hs_R scr d 97 62 [some (.ref t0), some (.int x1), some (.int x2)] [.int (I (t0_8 + 14) (Int32.toNatClampNeg x1)), .ref t0] (S, I, L, R) else none) else (if hs_ib x1 10 = true then hs_R scr d 97 62 [some (.ref t0), some (.int x1), some (.int x2)] [.int (I (t0_8 + 15) (Int32.toNatClampNeg x1)), .ref t0] (S, I, L, R) else none)) := Eq.trans (r_al_n d97_36 rfl) (Eq.trans (r_il_n d97_37 rfl) (Eq.trans (r_zne d97_38 rfl) (q_ite (Eq.trans (r_al_n d97_41 rfl) (Eq.trans (r_getRe d97_42 f97_60 o_t0.2.1 e_t0_8 o_t0_8.1) (Eq.trans (r_getRe d97_45 f97_241 o_t0_8.2.1 (o_t0_8.2.2.2.2.2.2.2.2.2.2.2.2.2.2.1) (Nat.le_trans o_t0_8.1 (Nat.le_add_right _ _))) (Eq.trans (r_il_n d97_48 rfl) (Eq.trans (r_iald d97_49 (o_t0_8.2.2.2.2.2.2.2.2.2.2.2.2.2.2.2.1)) (q_ite (Eq.trans (r_goto d97_50 rfl) (rfl)) rfl)))))) (Eq.trans (r_al_n d97_53 rfl) (Eq.trans (r_getRe d97_54 f97_60 o_t0.2.1 e_t0_8 o_t0_8.1) (Eq.trans (r_getRe d97_57 f97_244 o_t0_8.2.1 (o_t0_8.2.2.2.2.2.2.2.2.2.2.2.2.2.2.2.2.1) (Nat.le_trans o_t0_8.1 (Nat.le_add_right _ _))) (Eq.trans (r_il_n d97_60 rfl) (Eq.trans (r_iald d97_61 (o_t0_8.2.2.2.2.2.2.2.2.2.2.2.2.2.2.2.2.2)) (q_ite (rfl) rfl)))))))))
theorem b97_62 {t0 u0 : Nat} {x1 x2 s1 : Int32} (o_u0 : ok10 S R u0) : hs_R scr (d + 1) 97 62 [some (.ref t0), some (.int x1), some (.int x2)] [.int s1, .ref u0] (S, I, L, R) = ((hs_C scr d 68 [.ref u0, .int s1] (S, I, L, R)).bind fun o => hs_R scr (d + 1) 97 65 [some (.ref t0), some (.int x1), some (.int x2)] (o.1.toList ++ []) o.2) := r_cvE (as := [.int s1]) (r := []) d97_62 c97_173 ow68 o_u0.2.1 np68.symm rfl (hs_fitE mL68 (Nat.le_of_ble_eq_true rfl))
theorem b97_65 {t0 : Nat} {x1 x2 s0 : Int32}  : hs_R scr d 97 65 [some (.ref t0), some (.int x1), some (.int x2)] [.int s0] (S, I, L, R) = some (some (.int s0), (S, I, L, R)) := r_ri d97_65 rt97
theorem e98 {t0 : Nat} {x1 : Int32} : hs_C scr d 98 [.ref t0, .int x1] h = hs_R scr d 98 0 [some (.ref t0), some (.int x1), none, none, none] [] h := by rw [hs_C, mL98]; rfl
theorem b98_0 {t0 : Nat} {x1 : Int32}  : hs_R scr (d + 1) 98 0 [some (.ref t0), some (.int x1), none, none, none] [] (S, I, L, R) = ((hs_C scr d 17 [.int x1] (S, I, L, R)).bind fun o => hs_R scr (d + 1) 98 4 [some (.ref t0), some (.int x1), none, none, none] (o.1.toList ++ []) o.2) := Eq.trans (r_il_n d98_0 rfl) (r_cs (as := [.int x1]) (r := []) d98_1 c98_97 np17.symm rfl (hs_fitE mL17 (Nat.le_of_ble_eq_true rfl)))
theorem b98_4 {t0 : Nat} {x1 s0 : Int32} (o_t0 : ok10 S R t0) : hs_R scr (d + 1) 98 4 [some (.ref t0), some (.int x1), none, none, none] [.int s0] (S, I, L, R) = (if s0 = 0 then ((hs_C scr d 28 [.ref t0, .int 1] (S, I, L, R)).bind fun o => hs_R scr (d + 1) 98 12 [some (.ref t0), some (.int x1), none, none, none] (o.1.toList ++ []) o.2) else (if hs_ib x1 4 = true ∧ 2 ≤ (R (t0 + 1) (Int32.toNatClampNeg x1)) then hs_R scr (d + 1) 98 19 [some (.ref t0), some (.int x1), none, none, none] [.ref (R (t0 + 1) (Int32.toNatClampNeg x1))] (S, I, L, R) else none)) := Eq.trans (r_zne d98_4 rfl) (q_ite (Eq.trans (r_al_n d98_7 rfl) (Eq.trans (r_ic d98_8 kI_1) (r_cvE (as := [.int 1]) (r := []) d98_9 c98_120 ow28 o_t0.2.1 np28.symm rfl (hs_fitE mL28 (Nat.le_of_ble_eq_true rfl))))) (Eq.trans (r_al_n d98_13 rfl) (Eq.trans (r_getRe d98_14 f98_11 o_t0.2.1 (o_t0.2.2.1) (Nat.le_trans o_t0.1 (Nat.le_add_right _ _))) (Eq.trans (r_il_n d98_17 rfl) (Eq.trans (r_aald d98_18 (o_t0.2.2.2.1) (by decide)) (q_ite (rfl) rfl))))))
theorem b98_12 {t0 : Nat} {x1 s0 : Int32}  : hs_R scr d 98 12 [some (.ref t0), some (.int x1), none, none, none] [.int s0] (S, I, L, R) = some (some (.int s0), (S, I, L, R)) := r_ri d98_12 rt98
theorem b98_19 {t0 u0 : Nat} {x1 : Int32} (o_u0 : ok9 S R u0) : hs_R scr (d + 1) 98 19 [some (.ref t0), some (.int x1), none, none, none] [.ref u0] (S, I, L, R) = ((hs_C scr d 23 [.ref u0] (S, I, L, R)).bind fun o => hs_R scr (d + 1) 98 24 [some (.ref t0), some (.int x1), some (.ref u0), none, none] (o.1.toList ++ []) o.2) := Eq.trans (r_as_n (loc' := [some (.ref t0), some (.int x1), some (.ref u0), none, none]) d98_19 rfl) (Eq.trans (r_al_n d98_20 rfl) (r_cvE (as := []) (r := []) d98_21 c98_128 ow23 o_u0.2.1 np23.symm rfl (hs_fitE mL23 (Nat.le_of_ble_eq_true rfl))))
theorem b98_24 {t0 t2 t0_8 : Nat} {x1 s0 : Int32} (o_t0 : ok10 S R t0) (e_t0_8 : R t0 8 = t0_8) (o_t0_8 : ok4 S R t0_8) (o_t2 : ok9 S R t2) : hs_R scr (d + 1) 98 24 [some (.ref t0), some (.int x1), some (.ref t2), none, none] [.int s0] (S, I, L, R) = (if s0 = 0 then ((hs_C scr d 30 [.ref t2, .int 0, .int (I (t0_8 + 5) 4)] (S, I, L, R)).bind fun o => hs_R scr (d + 1) 98 50 [some (.ref t0), some (.int x1), some (.ref t2), some (.ref (t0_8 + 5)), none] (o.1.toList ++ []) o.2) else ((hs_C scr d 28 [.ref t0, .int 3] (S, I, L, R)).bind fun o => hs_R scr (d + 1) 98 32 [some (.ref t0), some (.int x1), some (.ref t2), none, none] (o.1.toList ++ []) o.2)) := Eq.trans (r_zeq d98_24 rfl) (q_ite (Eq.trans (r_al_n d98_33 rfl) (Eq.trans (r_getRe d98_34 f98_60 o_t0.2.1 e_t0_8 o_t0_8.1) (Eq.trans (r_getRe d98_37 f98_164 o_t0_8.2.1 (o_t0_8.2.2.2.2.1) (Nat.le_trans o_t0_8.1 (Nat.le_add_right _ _))) (Eq.trans (r_as_n (loc' := [some (.ref t0), some (.int x1), some (.ref t2), some (.ref (t0_8 + 5)), none]) d98_40 rfl) (Eq.trans (r_al_n d98_41 rfl) (Eq.trans (r_ic d98_42 kI_0) (Eq.trans (r_al_n d98_43 rfl) (Eq.trans (r_getI d98_44 f98_168 (o_t0_8.2.2.2.2.2.1).2.1) (r_cvE (as := [.int 0, .int (I (t0_8 + 5) 4)]) (r := []) d98_47 c98_134 ow30 o_t2.2.1 np30.symm rfl (hs_fitE mL30 (Nat.le_of_ble_eq_true rfl))))))))))) (Eq.trans (r_al_n d98_27 rfl) (Eq.trans (r_ic d98_28 kI_3) (r_cvE (as := [.int 3]) (r := []) d98_29 c98_120 ow28 o_t0.2.1 np28.symm rfl (hs_fitE mL28 (Nat.le_of_ble_eq_true rfl))))))
theorem b98_32 {t0 t2 : Nat} {x1 s0 : Int32}  : hs_R scr d 98 32 [some (.ref t0), some (.int x1), some (.ref t2), none, none] [.int s0] (S, I, L, R) = some (some (.int s0), (S, I, L, R)) := r_ri d98_32 rt98
theorem b98_50 {t0 t2 t3 : Nat} {x1 s0 : Int32} (o_t0 : ok10 S R t0) : hs_R scr (d + 1) 98 50 [some (.ref t0), some (.int x1), some (.ref t2), some (.ref t3), none] [.int s0] (S, I, L, R) = (if s0 = 0 then ((hs_C scr d 28 [.ref t0, .int 4] (S, I, L, R)).bind fun o => hs_R scr (d + 1) 98 58 [some (.ref t0), some (.int x1), some (.ref t2), some (.ref t3), none] (o.1.toList ++ []) o.2) else hs_R scr (d + 1) 98 62 [some (.ref t0), some (.int x1), some (.ref t2), some (.ref t3), some (.int 0)] [] (S, I, L, R)) := Eq.trans (r_zne d98_50 rfl) (q_ite (Eq.trans (r_al_n d98_53 rfl) (Eq.trans (r_ic d98_54 kI_4) (r_cvE (as := [.int 4]) (r := []) d98_55 c98_120 ow28 o_t0.2.1 np28.symm rfl (hs_fitE mL28 (Nat.le_of_ble_eq_true rfl))))) (Eq.trans (r_ic d98_59 kI_0) (Eq.trans (r_is (loc' := [some (.ref t0), some (.int x1), some (.ref t2), some (.ref t3), some (.int 0)]) d98_60 rfl) (rfl))))
theorem b98_58 {t0 t2 t3 : Nat} {x1 s0 : Int32}  : hs_R scr d 98 58 [some (.ref t0), some (.int x1), some (.ref t2), some (.ref t3), none] [.int s0] (S, I, L, R) = some (some (.int s0), (S, I, L, R)) := r_ri d98_58 rt98
theorem b98_62 {t0 t2 t3 : Nat} {x1 x4 : Int32} (o_t3 : ok1 S R t3) (o_t0 : ok10 S R t0) (o_t2 : ok9 S R t2) : hs_R scr (d + 1) 98 62 [some (.ref t0), some (.int x1), some (.ref t2), some (.ref t3), some (.int x4)] [] (S, I, L, R) = (if (I t3 4) ≤ x4 then ((hs_C scr d 68 [.ref t0, .int (I t3 4)] (S, I, L, R)).bind fun o => hs_R scr (d + 1) 98 99 [some (.ref t0), some (.int x1), some (.ref t2), some (.ref t3), some (.int x4)] (o.1.toList ++ []) o.2) else (if hs_ib x4 8 = true then ((hs_C scr d 25 [.ref t2, .int x4, .long (Int32.toInt64 (I (t3 + 1) (Int32.toNatClampNeg x4)))] (S, I, L, R)).bind fun o => hs_R scr (d + 1) 98 85 [some (.ref t0), some (.int x1), some (.ref t2), some (.ref t3), some (.int x4)] (o.1.toList ++ []) o.2) else none)) := Eq.trans (r_il d98_62 rfl) (Eq.trans (r_al_n d98_64 rfl) (Eq.trans (r_getI d98_65 f98_168 o_t3.2.1) (Eq.trans (r_cge d98_68 rfl) (q_ite (Eq.trans (r_al_n d98_91 rfl) (Eq.trans (r_al_n d98_92 rfl) (Eq.trans (r_getI d98_93 f98_168 o_t3.2.1) (r_cvE (as := [.int (I t3 4)]) (r := []) d98_96 c98_173 ow68 o_t0.2.1 np68.symm rfl (hs_fitE mL68 (Nat.le_of_ble_eq_true rfl)))))) (Eq.trans (r_al_n d98_71 rfl) (Eq.trans (r_il d98_72 rfl) (Eq.trans (r_al_n d98_74 rfl) (Eq.trans (r_getRe d98_75 f98_202 o_t3.2.1 (o_t3.2.2.1) (Nat.le_trans o_t3.1 (Nat.le_add_right _ _))) (Eq.trans (r_il d98_78 rfl) (Eq.trans (r_iald d98_80 (o_t3.2.2.2.1)) (q_ite (Eq.trans (r_i2l d98_81) (r_cvE (as := [.int x4, .long (Int32.toInt64 (I (t3 + 1) (Int32.toNatClampNeg x4)))]) (r := []) d98_82 c98_116 ow25 o_t2.2.1 np25.symm rfl (hs_fitE mL25 (Nat.le_of_ble_eq_true rfl)))) rfl)))))))))))
theorem b98_85 {t0 t2 t3 : Nat} {x1 x4 : Int32}  : hs_R scr d 98 85 [some (.ref t0), some (.int x1), some (.ref t2), some (.ref t3), some (.int x4)] [] (S, I, L, R) = hs_R scr d 98 62 [some (.ref t0), some (.int x1), some (.ref t2), some (.ref t3), some (.int (x4 + 1))] [] (S, I, L, R) := Eq.trans (r_inc (loc' := [some (.ref t0), some (.int x1), some (.ref t2), some (.ref t3), some (.int (x4 + 1))]) d98_85 kI_1 rfl rfl) (Eq.trans (r_goto d98_88 rfl) (rfl))
theorem b98_99 {t0 t2 t3 : Nat} {x1 x4 s0 : Int32}  : hs_R scr d 98 99 [some (.ref t0), some (.int x1), some (.ref t2), some (.ref t3), some (.int x4)] [.int s0] (S, I, L, R) = some (some (.int s0), (S, I, L, R)) := r_ri d98_99 rt98
theorem e99 {t0 : Nat} {x1 : Int32} : hs_C scr d 99 [.ref t0, .int x1] h = hs_R scr d 99 0 [some (.ref t0), some (.int x1)] [] h := by rw [hs_C, mL99]; rfl
theorem b99_0 {t0 t0_8 : Nat} {x1 : Int32} (o_t0 : ok10 S R t0) (e_t0_8 : R t0 8 = t0_8) (o_t0_8 : ok4 S R t0_8) : hs_R scr (d + 1) 99 0 [some (.ref t0), some (.int x1)] [] (S, I, L, R) = (if x1 < 1 then hs_R scr (d + 1) 99 11 [some (.ref t0), some (.int x1)] [] (S, I, L, R) else (if x1 ≤ 99 then ((hs_C scr d 100 [.ref t0_8, .int x1] (S, I, L, R)).bind fun o => hs_R scr (d + 1) 99 25 [some (.ref t0), some (.int x1)] (o.1.toList ++ []) o.2) else hs_R scr (d + 1) 99 11 [some (.ref t0), some (.int x1)] [] (S, I, L, R))) := Eq.trans (r_il_n d99_0 rfl) (Eq.trans (r_ic d99_1 kI_1) (Eq.trans (r_clt d99_2 rfl) (q_ite (rfl) (Eq.trans (r_il_n d99_5 rfl) (Eq.trans (r_bp d99_6 kB_99) (Eq.trans (r_cle d99_8 rfl) (q_ite (Eq.trans (r_al_n d99_17 rfl) (Eq.trans (r_getRe d99_18 f99_60 o_t0.2.1 e_t0_8 o_t0_8.1) (Eq.trans (r_il_n d99_21 rfl) (r_cvE (as := [.int x1]) (r := []) d99_22 c99_247 ow100 o_t0_8.2.1 np100.symm rfl (hs_fitE mL100 (Nat.le_of_ble_eq_true rfl)))))) (rfl))))))))
theorem b99_11 {t0 : Nat} {x1 : Int32} (o_t0 : ok10 S R t0) : hs_R scr (d + 1) 99 11 [some (.ref t0), some (.int x1)] [] (S, I, L, R) = ((hs_C scr d 28 [.ref t0, .int 5] (S, I, L, R)).bind fun o => hs_R scr (d + 1) 99 16 [some (.ref t0), some (.int x1)] (o.1.toList ++ []) o.2) := Eq.trans (r_al_n d99_11 rfl) (Eq.trans (r_ic d99_12 kI_5) (r_cvE (as := [.int 5]) (r := []) d99_13 c99_120 ow28 o_t0.2.1 np28.symm rfl (hs_fitE mL28 (Nat.le_of_ble_eq_true rfl))))
theorem b99_16 {t0 : Nat} {x1 s0 : Int32}  : hs_R scr d 99 16 [some (.ref t0), some (.int x1)] [.int s0] (S, I, L, R) = some (some (.int s0), (S, I, L, R)) := r_ri d99_16 rt99
theorem b99_25 {t0 t0_8 : Nat} {x1 s0 : Int32} (o_t0 : ok10 S R t0) (e_t0_8 : R t0 8 = t0_8) (o_t0_8 : ok4 S R t0_8) : hs_R scr (d + 1) 99 25 [some (.ref t0), some (.int x1)] [.int s0] (S, I, L, R) = (if s0 = 0 then ((hs_C scr d 28 [.ref t0, .int 7] (S, I, L, R)).bind fun o => hs_R scr (d + 1) 99 34 [some (.ref t0), some (.int x1)] (o.1.toList ++ []) o.2) else ((hs_C scr d 86 [.ref (t0_8 + 5)] (S, I, L, R)).bind fun o => hs_R scr (d + 1) 99 46 [some (.ref t0), some (.int x1)] (o.1.toList ++ [.ref t0]) o.2)) := Eq.trans (r_zne d99_25 rfl) (q_ite (Eq.trans (r_al_n d99_28 rfl) (Eq.trans (r_bp d99_29 kB_7) (r_cvE (as := [.int 7]) (r := []) d99_31 c99_120 ow28 o_t0.2.1 np28.symm rfl (hs_fitE mL28 (Nat.le_of_ble_eq_true rfl))))) (Eq.trans (r_al_n d99_35 rfl) (Eq.trans (r_al_n d99_36 rfl) (Eq.trans (r_getRe d99_37 f99_60 o_t0.2.1 e_t0_8 o_t0_8.1) (Eq.trans (r_getRe d99_40 f99_164 o_t0_8.2.1 (o_t0_8.2.2.2.2.1) (Nat.le_trans o_t0_8.1 (Nat.le_add_right _ _))) (r_cvE (as := []) (r := [.ref t0]) d99_43 c99_250 ow86 (o_t0_8.2.2.2.2.2.1).2.1 np86.symm rfl (hs_fitE mL86 (Nat.le_of_ble_eq_true rfl))))))))
theorem b99_34 {t0 : Nat} {x1 s0 : Int32}  : hs_R scr d 99 34 [some (.ref t0), some (.int x1)] [.int s0] (S, I, L, R) = some (some (.int s0), (S, I, L, R)) := r_ri d99_34 rt99
theorem b99_46 {t0 u0 : Nat} {x1 s1 : Int32} (o_u0 : ok10 S R u0) : hs_R scr (d + 1) 99 46 [some (.ref t0), some (.int x1)] [.int s1, .ref u0] (S, I, L, R) = ((hs_C scr d 68 [.ref u0, .int s1] (S, I, L, R)).bind fun o => hs_R scr (d + 1) 99 49 [some (.ref t0), some (.int x1)] (o.1.toList ++ []) o.2) := r_cvE (as := [.int s1]) (r := []) d99_46 c99_173 ow68 o_u0.2.1 np68.symm rfl (hs_fitE mL68 (Nat.le_of_ble_eq_true rfl))
theorem b99_49 {t0 : Nat} {x1 s0 : Int32}  : hs_R scr d 99 49 [some (.ref t0), some (.int x1)] [.int s0] (S, I, L, R) = some (some (.int s0), (S, I, L, R)) := r_ri d99_49 rt99
theorem e104 {t0 : Nat} {x1 : Int32} : hs_C scr d 104 [.ref t0, .int x1] h = hs_R scr d 104 0 [some (.ref t0), some (.int x1)] [] h := by rw [hs_C, mL104]; rfl
theorem b104_0 {t0 t0_8 : Nat} {x1 : Int32} (o_t0 : ok10 S R t0) (e_t0_8 : R t0 8 = t0_8) (o_t0_8 : ok4 S R t0_8) : hs_R scr (d + 1) 104 0 [some (.ref t0), some (.int x1)] [] (S, I, L, R) = ((hs_C scr d 105 [.ref t0_8, .int x1] (S, I, L, R)).bind fun o => hs_R scr (d + 1) 104 8 [some (.ref t0), some (.int x1)] (o.1.toList ++ []) o.2) := Eq.trans (r_al_n d104_0 rfl) (Eq.trans (r_getRe d104_1 f104_60 o_t0.2.1 e_t0_8 o_t0_8.1) (Eq.trans (r_il_n d104_4 rfl) (r_cvE (as := [.int x1]) (r := []) d104_5 c104_254 ow105 o_t0_8.2.1 np105.symm rfl (hs_fitE mL105 (Nat.le_of_ble_eq_true rfl)))))
theorem b104_8 {t0 : Nat} {x1 s0 : Int32} (o_t0 : ok10 S R t0) : hs_R scr (d + 1) 104 8 [some (.ref t0), some (.int x1)] [.int s0] (S, I, L, R) = (if s0 = 0 then ((hs_C scr d 18 [.ref t0, .int 9] (S, I, L, R)).bind fun o => hs_R scr (d + 1) 104 24 [some (.ref t0), some (.int x1)] (o.1.toList ++ []) o.2) else ((hs_C scr d 20 [.ref t0] (S, I, L, R)).bind fun o => hs_R scr (d + 1) 104 15 [some (.ref t0), some (.int x1)] (o.1.toList ++ []) o.2)) := Eq.trans (r_zeq d104_8 rfl) (q_ite (Eq.trans (r_al_n d104_18 rfl) (Eq.trans (r_bp d104_19 kB_9) (r_cvE (as := [.int 9]) (r := []) d104_21 c104_101 ow18 o_t0.2.1 np18.symm rfl (hs_fitE mL18 (Nat.le_of_ble_eq_true rfl))))) (Eq.trans (r_al_n d104_11 rfl) (r_cvE (as := []) (r := []) d104_12 c104_108 ow20 o_t0.2.1 np20.symm rfl (hs_fitE mL20 (Nat.le_of_ble_eq_true rfl)))))
theorem b104_15 {t0 : Nat} {x1 s0 : Int32}  : hs_R scr d 104 15 [some (.ref t0), some (.int x1)] [.int s0] (S, I, L, R) = hs_R scr d 104 24 [some (.ref t0), some (.int x1)] [.int s0] (S, I, L, R) := Eq.trans (r_goto d104_15 rfl) (rfl)
theorem b104_24 {t0 : Nat} {x1 s0 : Int32}  : hs_R scr d 104 24 [some (.ref t0), some (.int x1)] [.int s0] (S, I, L, R) = (if s0 = 0 ∨ s0 = 1 then some (some (.int s0), (S, I, L, R)) else none) := r_rz d104_24 rt104
theorem e106 {t0 : Nat} {x1 : Int32} {x2 : Int32} : hs_C scr d 106 [.ref t0, .int x1, .int x2] h = hs_R scr d 106 0 [some (.ref t0), some (.int x1), some (.int x2), none, none] [] h := by rw [hs_C, mL106]; rfl
theorem b106_0 {t0 : Nat} {x1 x2 : Int32} (o_t0 : ok10 S R t0) : hs_R scr (d + 1) 106 0 [some (.ref t0), some (.int x1), some (.int x2), none, none] [] (S, I, L, R) = ((hs_C scr d 107 [.ref t0, .int x1, .int x2, .int 0, .int 99] (S, I, L, R)).bind fun o => hs_R scr (d + 1) 106 9 [some (.ref t0), some (.int x1), some (.int x2), none, none] (o.1.toList ++ []) o.2) := Eq.trans (r_al_n d106_0 rfl) (Eq.trans (r_il_n d106_1 rfl) (Eq.trans (r_il_n d106_2 rfl) (Eq.trans (r_ic d106_3 kI_0) (Eq.trans (r_bp d106_4 kB_99) (r_cvE (as := [.int x1, .int x2, .int 0, .int 99]) (r := []) d106_6 c106_258 ow107 o_t0.2.1 np107.symm rfl (hs_fitE mL107 (Nat.le_of_ble_eq_true rfl)))))))
theorem b106_9 {t0 t0_8 : Nat} {x1 x2 s0 : Int32} (o_t0 : ok10 S R t0) (e_t0_8 : R t0 8 = t0_8) (o_t0_8 : ok4 S R t0_8) : hs_R scr (d + 1) 106 9 [some (.ref t0), some (.int x1), some (.int x2), none, none] [.int s0] (S, I, L, R) = (if s0 = 0 then (if hs_ib x1 8 = true then (if hs_ib x1 8 = true then ((hs_C scr d 68 [.ref t0, .int (I (t0_8 + 9) (Int32.toNatClampNeg x1))] (S, (hs_u I (t0_8 + 9) (Int32.toNatClampNeg x1) x2), L, R)).bind fun o => hs_R scr (d + 1) 106 53 [some (.ref t0), some (.int x1), some (.int x2), some (.int s0), some (.int (I (t0_8 + 9) (Int32.toNatClampNeg x1)))] (o.1.toList ++ []) o.2) else none) else none) else ((hs_C scr d 28 [.ref t0, .int s0] (S, I, L, R)).bind fun o => hs_R scr (d + 1) 106 19 [some (.ref t0), some (.int x1), some (.int x2), some (.int s0), none] (o.1.toList ++ []) o.2)) := Eq.trans (r_is_n (loc' := [some (.ref t0), some (.int x1), some (.int x2), some (.int s0), none]) d106_9 rfl) (Eq.trans (r_il_n d106_10 rfl) (Eq.trans (r_zeq d106_11 rfl) (q_ite (Eq.trans (r_al_n d106_20 rfl) (Eq.trans (r_getRe d106_21 f106_60 o_t0.2.1 e_t0_8 o_t0_8.1) (Eq.trans (r_getRe d106_24 f106_164 o_t0_8.2.1 (o_t0_8.2.2.2.2.1) (Nat.le_trans o_t0_8.1 (Nat.le_add_right _ _))) (Eq.trans (r_getRe d106_27 f106_211 (o_t0_8.2.2.2.2.2.1).2.1 ((o_t0_8.2.2.2.2.2.1).2.2.2.2.2.2.2.2.1) (Nat.le_trans (o_t0_8.2.2.2.2.2.1).1 (Nat.le_add_right _ _))) (Eq.trans (r_il_n d106_30 rfl) (Eq.trans (r_iald d106_31 ((o_t0_8.2.2.2.2.2.1).2.2.2.2.2.2.2.2.2)) (q_ite (Eq.trans (r_is (loc' := [some (.ref t0), some (.int x1), some (.int x2), some (.int s0), some (.int (I (t0_8 + 9) (Int32.toNatClampNeg x1)))]) d106_32 rfl) (Eq.trans (r_al_n d106_34 rfl) (Eq.trans (r_getRe d106_35 f106_60 o_t0.2.1 e_t0_8 o_t0_8.1) (Eq.trans (r_getRe d106_38 f106_164 o_t0_8.2.1 (o_t0_8.2.2.2.2.1) (Nat.le_trans o_t0_8.1 (Nat.le_add_right _ _))) (Eq.trans (r_getRe d106_41 f106_211 (o_t0_8.2.2.2.2.2.1).2.1 ((o_t0_8.2.2.2.2.2.1).2.2.2.2.2.2.2.2.1) (Nat.le_trans (o_t0_8.2.2.2.2.2.1).1 (Nat.le_add_right _ _))) (Eq.trans (r_il_n d106_44 rfl) (Eq.trans (r_il_n d106_45 rfl) (Eq.trans (r_iast d106_46 ((o_t0_8.2.2.2.2.2.1).2.2.2.2.2.2.2.2.2)) (q_ite (Eq.trans (r_al_n d106_47 rfl) (Eq.trans (r_il d106_48 rfl) (r_cvE (as := [.int (I (t0_8 + 9) (Int32.toNatClampNeg x1))]) (r := []) d106_50 c106_173 ow68 o_t0.2.1 np68.symm rfl (hs_fitE mL68 (Nat.le_of_ble_eq_true rfl))))) rfl))))))))) rfl))))))) (Eq.trans (r_al_n d106_14 rfl) (Eq.trans (r_il_n d106_15 rfl) (r_cvE (as := [.int s0]) (r := []) d106_16 c106_120 ow28 o_t0.2.1 np28.symm rfl (hs_fitE mL28 (Nat.le_of_ble_eq_true rfl))))))))
theorem b106_19 {t0 : Nat} {x1 x2 x3 s0 : Int32}  : hs_R scr d 106 19 [some (.ref t0), some (.int x1), some (.int x2), some (.int x3), none] [.int s0] (S, I, L, R) = some (some (.int s0), (S, I, L, R)) := r_ri d106_19 rt106
theorem b106_53 {t0 : Nat} {x1 x2 x3 x4 s0 : Int32}  : hs_R scr d 106 53 [some (.ref t0), some (.int x1), some (.int x2), some (.int x3), some (.int x4)] [.int s0] (S, I, L, R) = some (some (.int s0), (S, I, L, R)) := r_ri d106_53 rt106
theorem e107 {t0 : Nat} {x1 : Int32} {x2 : Int32} {x3 : Int32} {x4 : Int32} : hs_C scr d 107 [.ref t0, .int x1, .int x2, .int x3, .int x4] h = hs_R scr d 107 0 [some (.ref t0), some (.int x1), some (.int x2), some (.int x3), some (.int x4)] [] h := by rw [hs_C, mL107]; rfl
theorem b107_0 {t0 : Nat} {x1 x2 x3 x4 : Int32} (o_t0 : ok10 S R t0) : hs_R scr (d + 1) 107 0 [some (.ref t0), some (.int x1), some (.int x2), some (.int x3), some (.int x4)] [] (S, I, L, R) = ((hs_C scr d 89 [.ref t0, .int x1] (S, I, L, R)).bind fun o => hs_R scr (d + 1) 107 5 [some (.ref t0), some (.int x1), some (.int x2), some (.int x3), some (.int x4)] (o.1.toList ++ []) o.2) := Eq.trans (r_al_n d107_0 rfl) (Eq.trans (r_il_n d107_1 rfl) (r_cvE (as := [.int x1]) (r := []) d107_2 c107_199 ow89 o_t0.2.1 np89.symm rfl (hs_fitE mL89 (Nat.le_of_ble_eq_true rfl))))
theorem b107_5 {t0 : Nat} {x1 x2 x3 x4 s0 : Int32}  : hs_R scr d 107 5 [some (.ref t0), some (.int x1), some (.int x2), some (.int x3), some (.int x4)] [.int s0] (S, I, L, R) = (if s0 = 0 then some (some (.int 2), (S, I, L, R)) else (if x2 < x3 then hs_R scr d 107 21 [some (.ref t0), some (.int x1), some (.int x2), some (.int x3), some (.int x4)] [] (S, I, L, R) else (if x2 ≤ x4 then hs_R scr d 107 26 [some (.ref t0), some (.int x1), some (.int x2), some (.int x3), some (.int x4)] [.int 0] (S, I, L, R) else hs_R scr d 107 21 [some (.ref t0), some (.int x1), some (.int x2), some (.int x3), some (.int x4)] [] (S, I, L, R)))) := Eq.trans (r_zne d107_5 rfl) (q_ite (Eq.trans (r_ic d107_8 kI_2) (r_ri d107_9 rt107)) (Eq.trans (r_il_n d107_10 rfl) (Eq.trans (r_il_n d107_11 rfl) (Eq.trans (r_clt d107_12 rfl) (q_ite (rfl) (Eq.trans (r_il_n d107_15 rfl) (Eq.trans (r_il d107_16 rfl) (Eq.trans (r_cle d107_18 rfl) (q_ite (Eq.trans (r_ic d107_25 kI_0) (rfl)) (rfl))))))))))
theorem b107_21 {t0 : Nat} {x1 x2 x3 x4 : Int32}  : hs_R scr d 107 21 [some (.ref t0), some (.int x1), some (.int x2), some (.int x3), some (.int x4)] [] (S, I, L, R) = hs_R scr d 107 26 [some (.ref t0), some (.int x1), some (.int x2), some (.int x3), some (.int x4)] [.int 5] (S, I, L, R) := Eq.trans (r_ic d107_21 kI_5) (Eq.trans (r_goto d107_22 rfl) (rfl))
theorem b107_26 {t0 : Nat} {x1 x2 x3 x4 s0 : Int32}  : hs_R scr d 107 26 [some (.ref t0), some (.int x1), some (.int x2), some (.int x3), some (.int x4)] [.int s0] (S, I, L, R) = some (some (.int s0), (S, I, L, R)) := r_ri d107_26 rt107
theorem e108 {t0 : Nat} {x1 : Int32} {x2 : Int32} : hs_C scr d 108 [.ref t0, .int x1, .int x2] h = hs_R scr d 108 0 [some (.ref t0), some (.int x1), some (.int x2), none] [] h := by rw [hs_C, mL108]; rfl
theorem b108_0 {t0 : Nat} {x1 x2 : Int32} (o_t0 : ok10 S R t0) : hs_R scr (d + 1) 108 0 [some (.ref t0), some (.int x1), some (.int x2), none] [] (S, I, L, R) = ((hs_C scr d 109 [.ref t0, .int x1, .int x2] (S, I, L, R)).bind fun o => hs_R scr (d + 1) 108 6 [some (.ref t0), some (.int x1), some (.int x2), none] (o.1.toList ++ []) o.2) := Eq.trans (r_al_n d108_0 rfl) (Eq.trans (r_il_n d108_1 rfl) (Eq.trans (r_il_n d108_2 rfl) (r_cvE (as := [.int x1, .int x2]) (r := []) d108_3 c108_262 ow109 o_t0.2.1 np109.symm rfl (hs_fitE mL109 (Nat.le_of_ble_eq_true rfl)))))
theorem b108_6 {t0 t0_8 : Nat} {x1 x2 s0 : Int32} (o_t0 : ok10 S R t0) (e_t0_8 : R t0 8 = t0_8) (o_t0_8 : ok4 S R t0_8) : hs_R scr (d + 1) 108 6 [some (.ref t0), some (.int x1), some (.int x2), none] [.int s0] (S, I, L, R) = (if s0 = 0 then ((hs_C scr d 110 [.ref (t0_8 + 5), .int x1, .int x2] (S, I, L, R)).bind fun o => hs_R scr (d + 1) 108 32 [some (.ref t0), some (.int x1), some (.int x2), some (.int s0)] (o.1.toList ++ [.ref t0]) o.2) else ((hs_C scr d 28 [.ref t0, .int s0] (S, I, L, R)).bind fun o => hs_R scr (d + 1) 108 16 [some (.ref t0), some (.int x1), some (.int x2), some (.int s0)] (o.1.toList ++ []) o.2)) := Eq.trans (r_is_n (loc' := [some (.ref t0), some (.int x1), some (.int x2), some (.int s0)]) d108_6 rfl) (Eq.trans (r_il_n d108_7 rfl) (Eq.trans (r_zeq d108_8 rfl) (q_ite (Eq.trans (r_al_n d108_19 rfl) (Eq.trans (r_al_n d108_20 rfl) (Eq.trans (r_getRe d108_21 f108_60 o_t0.2.1 e_t0_8 o_t0_8.1) (Eq.trans (r_getRe d108_24 f108_164 o_t0_8.2.1 (o_t0_8.2.2.2.2.1) (Nat.le_trans o_t0_8.1 (Nat.le_add_right _ _))) (Eq.trans (r_il_n d108_27 rfl) (Eq.trans (r_il_n d108_28 rfl) (r_cvE (as := [.int x1, .int x2]) (r := [.ref t0]) d108_29 c108_265 ow110 (o_t0_8.2.2.2.2.2.1).2.1 np110.symm rfl (hs_fitE mL110 (Nat.le_of_ble_eq_true rfl))))))))) (Eq.trans (r_al_n d108_11 rfl) (Eq.trans (r_il_n d108_12 rfl) (r_cvE (as := [.int s0]) (r := []) d108_13 c108_120 ow28 o_t0.2.1 np28.symm rfl (hs_fitE mL28 (Nat.le_of_ble_eq_true rfl))))))))
theorem b108_16 {t0 : Nat} {x1 x2 x3 s0 : Int32}  : hs_R scr d 108 16 [some (.ref t0), some (.int x1), some (.int x2), some (.int x3)] [.int s0] (S, I, L, R) = hs_R scr d 108 35 [some (.ref t0), some (.int x1), some (.int x2), some (.int x3)] [.int s0] (S, I, L, R) := Eq.trans (r_goto d108_16 rfl) (rfl)
theorem b108_32 {t0 u0 : Nat} {x1 x2 x3 s1 : Int32} (o_u0 : ok10 S R u0) : hs_R scr (d + 1) 108 32 [some (.ref t0), some (.int x1), some (.int x2), some (.int x3)] [.int s1, .ref u0] (S, I, L, R) = ((hs_C scr d 68 [.ref u0, .int s1] (S, I, L, R)).bind fun o => hs_R scr (d + 1) 108 35 [some (.ref t0), some (.int x1), some (.int x2), some (.int x3)] (o.1.toList ++ []) o.2) := r_cvE (as := [.int s1]) (r := []) d108_32 c108_173 ow68 o_u0.2.1 np68.symm rfl (hs_fitE mL68 (Nat.le_of_ble_eq_true rfl))
theorem b108_35 {t0 : Nat} {x1 x2 x3 s0 : Int32}  : hs_R scr d 108 35 [some (.ref t0), some (.int x1), some (.int x2), some (.int x3)] [.int s0] (S, I, L, R) = some (some (.int s0), (S, I, L, R)) := r_ri d108_35 rt108
theorem e109 {t0 : Nat} {x1 : Int32} {x2 : Int32} : hs_C scr d 109 [.ref t0, .int x1, .int x2] h = hs_R scr d 109 0 [some (.ref t0), some (.int x1), some (.int x2), none] [] h := by rw [hs_C, mL109]; rfl
theorem b109_0 {t0 : Nat} {x1 x2 : Int32} (o_t0 : ok10 S R t0) : hs_R scr (d + 1) 109 0 [some (.ref t0), some (.int x1), some (.int x2), none] [] (S, I, L, R) = ((hs_C scr d 107 [.ref t0, .int x1, .int x2, .int 0, .int 99] (S, I, L, R)).bind fun o => hs_R scr (d + 1) 109 9 [some (.ref t0), some (.int x1), some (.int x2), none] (o.1.toList ++ []) o.2) := Eq.trans (r_al_n d109_0 rfl) (Eq.trans (r_il_n d109_1 rfl) (Eq.trans (r_il_n d109_2 rfl) (Eq.trans (r_ic d109_3 kI_0) (Eq.trans (r_bp d109_4 kB_99) (r_cvE (as := [.int x1, .int x2, .int 0, .int 99]) (r := []) d109_6 c109_258 ow107 o_t0.2.1 np107.symm rfl (hs_fitE mL107 (Nat.le_of_ble_eq_true rfl)))))))
theorem b109_9 {t0 t0_8 : Nat} {x1 x2 s0 : Int32} (o_t0 : ok10 S R t0) (e_t0_8 : R t0 8 = t0_8) (o_t0_8 : ok4 S R t0_8) : hs_R scr d 109 9 [some (.ref t0), some (.int x1), some (.int x2), none] [.int s0] (S, I, L, R) = (if s0 = 0 then (if hs_ib x1 8 = true then (if x2 < (I (t0_8 + 6) (Int32.toNatClampNeg x1)) then hs_R scr d 109 38 [some (.ref t0), some (.int x1), some (.int x2), some (.int s0)] [.int 0] (S, I, L, R) else hs_R scr d 109 38 [some (.ref t0), some (.int x1), some (.int x2), some (.int s0)] [.int 9] (S, I, L, R)) else none) else some (some (.int s0), (S, I, L, R))) := Eq.trans (r_is_n (loc' := [some (.ref t0), some (.int x1), some (.int x2), some (.int s0)]) d109_9 rfl) (Eq.trans (r_il_n d109_10 rfl) (Eq.trans (r_zeq d109_11 rfl) (q_ite (Eq.trans (r_al_n d109_16 rfl) (Eq.trans (r_getRe d109_17 f109_60 o_t0.2.1 e_t0_8 o_t0_8.1) (Eq.trans (r_getRe d109_20 f109_164 o_t0_8.2.1 (o_t0_8.2.2.2.2.1) (Nat.le_trans o_t0_8.1 (Nat.le_add_right _ _))) (Eq.trans (r_getRe d109_23 f109_202 (o_t0_8.2.2.2.2.2.1).2.1 ((o_t0_8.2.2.2.2.2.1).2.2.1) (Nat.le_trans (o_t0_8.2.2.2.2.2.1).1 (Nat.le_add_right _ _))) (Eq.trans (r_il_n d109_26 rfl) (Eq.trans (r_iald d109_27 ((o_t0_8.2.2.2.2.2.1).2.2.2.1)) (q_ite (Eq.trans (r_il_n d109_28 rfl) (Eq.trans (r_cgt d109_29 rfl) (q_ite (Eq.trans (r_ic d109_37 kI_0) (rfl)) (Eq.trans (r_bp d109_32 kB_9) (Eq.trans (r_goto d109_34 rfl) (rfl)))))) rfl))))))) (Eq.trans (r_il_n d109_14 rfl) (r_ri d109_15 rt109)))))
theorem b109_38 {t0 : Nat} {x1 x2 x3 s0 : Int32}  : hs_R scr d 109 38 [some (.ref t0), some (.int x1), some (.int x2), some (.int x3)] [.int s0] (S, I, L, R) = some (some (.int s0), (S, I, L, R)) := r_ri d109_38 rt109
theorem e111 {t0 : Nat} {x1 : Int32} {x2 : Int32} : hs_C scr d 111 [.ref t0, .int x1, .int x2] h = hs_R scr d 111 0 [some (.ref t0), some (.int x1), some (.int x2), none] [] h := by rw [hs_C, mL111]; rfl
theorem b111_0 {t0 : Nat} {x1 x2 : Int32} (o_t0 : ok10 S R t0) : hs_R scr (d + 1) 111 0 [some (.ref t0), some (.int x1), some (.int x2), none] [] (S, I, L, R) = ((hs_C scr d 109 [.ref t0, .int x1, .int x2] (S, I, L, R)).bind fun o => hs_R scr (d + 1) 111 6 [some (.ref t0), some (.int x1), some (.int x2), none] (o.1.toList ++ []) o.2) := Eq.trans (r_al_n d111_0 rfl) (Eq.trans (r_il_n d111_1 rfl) (Eq.trans (r_il_n d111_2 rfl) (r_cvE (as := [.int x1, .int x2]) (r := []) d111_3 c111_262 ow109 o_t0.2.1 np109.symm rfl (hs_fitE mL109 (Nat.le_of_ble_eq_true rfl)))))
theorem b111_6 {t0 t0_8 : Nat} {x1 x2 s0 : Int32} (o_t0 : ok10 S R t0) (e_t0_8 : R t0 8 = t0_8) (o_t0_8 : ok4 S R t0_8) : hs_R scr (d + 1) 111 6 [some (.ref t0), some (.int x1), some (.int x2), none] [.int s0] (S, I, L, R) = (if s0 = 0 then ((hs_C scr d 112 [.ref t0_8, .int x1, .int x2] (S, I, L, R)).bind fun o => hs_R scr (d + 1) 111 26 [some (.ref t0), some (.int x1), some (.int x2), some (.int s0)] (o.1.toList ++ []) o.2) else ((hs_C scr d 28 [.ref t0, .int s0] (S, I, L, R)).bind fun o => hs_R scr (d + 1) 111 16 [some (.ref t0), some (.int x1), some (.int x2), some (.int s0)] (o.1.toList ++ []) o.2)) := Eq.trans (r_is_n (loc' := [some (.ref t0), some (.int x1), some (.int x2), some (.int s0)]) d111_6 rfl) (Eq.trans (r_il_n d111_7 rfl) (Eq.trans (r_zeq d111_8 rfl) (q_ite (Eq.trans (r_al_n d111_17 rfl) (Eq.trans (r_getRe d111_18 f111_60 o_t0.2.1 e_t0_8 o_t0_8.1) (Eq.trans (r_il_n d111_21 rfl) (Eq.trans (r_il_n d111_22 rfl) (r_cvE (as := [.int x1, .int x2]) (r := []) d111_23 c111_268 ow112 o_t0_8.2.1 np112.symm rfl (hs_fitE mL112 (Nat.le_of_ble_eq_true rfl))))))) (Eq.trans (r_al_n d111_11 rfl) (Eq.trans (r_il_n d111_12 rfl) (r_cvE (as := [.int s0]) (r := []) d111_13 c111_120 ow28 o_t0.2.1 np28.symm rfl (hs_fitE mL28 (Nat.le_of_ble_eq_true rfl))))))))
theorem b111_16 {t0 : Nat} {x1 x2 x3 s0 : Int32}  : hs_R scr d 111 16 [some (.ref t0), some (.int x1), some (.int x2), some (.int x3)] [.int s0] (S, I, L, R) = some (some (.int s0), (S, I, L, R)) := r_ri d111_16 rt111
theorem b111_26 {t0 t0_8 : Nat} {x1 x2 x3 s0 : Int32} (o_t0 : ok10 S R t0) (e_t0_8 : R t0 8 = t0_8) (o_t0_8 : ok4 S R t0_8) : hs_R scr (d + 1) 111 26 [some (.ref t0), some (.int x1), some (.int x2), some (.int x3)] [.int s0] (S, I, L, R) = (if (0 : Int32) < s0 then ((hs_C scr d 110 [.ref (t0_8 + 5), .int x1, .int x2] (S, I, L, R)).bind fun o => hs_R scr (d + 1) 111 47 [some (.ref t0), some (.int x1), some (.int x2), some (.int x3)] (o.1.toList ++ []) o.2) else ((hs_C scr d 68 [.ref t0, .int 0] (S, I, L, R)).bind fun o => hs_R scr (d + 1) 111 34 [some (.ref t0), some (.int x1), some (.int x2), some (.int x3)] (o.1.toList ++ []) o.2)) := Eq.trans (r_zgt d111_26 rfl) (q_ite (Eq.trans (r_al_n d111_35 rfl) (Eq.trans (r_getRe d111_36 f111_60 o_t0.2.1 e_t0_8 o_t0_8.1) (Eq.trans (r_getRe d111_39 f111_164 o_t0_8.2.1 (o_t0_8.2.2.2.2.1) (Nat.le_trans o_t0_8.1 (Nat.le_add_right _ _))) (Eq.trans (r_il_n d111_42 rfl) (Eq.trans (r_il_n d111_43 rfl) (r_cvE (as := [.int x1, .int x2]) (r := []) d111_44 c111_265 ow110 (o_t0_8.2.2.2.2.2.1).2.1 np110.symm rfl (hs_fitE mL110 (Nat.le_of_ble_eq_true rfl)))))))) (Eq.trans (r_al_n d111_29 rfl) (Eq.trans (r_ic d111_30 kI_0) (r_cvE (as := [.int 0]) (r := []) d111_31 c111_173 ow68 o_t0.2.1 np68.symm rfl (hs_fitE mL68 (Nat.le_of_ble_eq_true rfl))))))
theorem b111_34 {t0 : Nat} {x1 x2 x3 s0 : Int32}  : hs_R scr d 111 34 [some (.ref t0), some (.int x1), some (.int x2), some (.int x3)] [.int s0] (S, I, L, R) = some (some (.int s0), (S, I, L, R)) := r_ri d111_34 rt111
theorem b111_47 {t0 : Nat} {x1 x2 x3 s0 : Int32} (o_t0 : ok10 S R t0) : hs_R scr (d + 1) 111 47 [some (.ref t0), some (.int x1), some (.int x2), some (.int x3)] [.int s0] (S, I, L, R) = ((hs_C scr d 68 [.ref t0, .int 1] (S, I, L, R)).bind fun o => hs_R scr (d + 1) 111 53 [some (.ref t0), some (.int x1), some (.int x2), some (.int x3)] (o.1.toList ++ []) o.2) := Eq.trans (r_pop d111_47 rfl) (Eq.trans (r_al_n d111_48 rfl) (Eq.trans (r_ic d111_49 kI_1) (r_cvE (as := [.int 1]) (r := []) d111_50 c111_173 ow68 o_t0.2.1 np68.symm rfl (hs_fitE mL68 (Nat.le_of_ble_eq_true rfl)))))
theorem b111_53 {t0 : Nat} {x1 x2 x3 s0 : Int32}  : hs_R scr d 111 53 [some (.ref t0), some (.int x1), some (.int x2), some (.int x3)] [.int s0] (S, I, L, R) = some (some (.int s0), (S, I, L, R)) := r_ri d111_53 rt111
theorem e113 {t0 : Nat} : hs_C scr d 113 [.ref t0] h = hs_R scr d 113 0 [some (.ref t0)] [] h := by rw [hs_C, mL113]; rfl
theorem b113_0 {t0 t0_8 : Nat} (o_t0 : ok10 S R t0) (e_t0_8 : R t0 8 = t0_8) (o_t0_8 : ok4 S R t0_8) : hs_R scr (d + 1) 113 0 [some (.ref t0)] [] (S, I, L, R) = ((hs_C scr d 114 [.ref t0_8] (S, I, L, R)).bind fun o => hs_R scr (d + 1) 113 7 [some (.ref t0)] (o.1.toList ++ []) o.2) := Eq.trans (r_al_n d113_0 rfl) (Eq.trans (r_getRe d113_1 f113_60 o_t0.2.1 e_t0_8 o_t0_8.1) (r_cvE (as := []) (r := []) d113_4 c113_271 ow114 o_t0_8.2.1 np114.symm rfl (hs_fitE mL114 (Nat.le_of_ble_eq_true rfl))))
theorem b113_7 {t0 t0_8 : Nat} {s0 : Int32} (o_t0 : ok10 S R t0) (e_t0_8 : R t0 8 = t0_8) (o_t0_8 : ok4 S R t0_8) : hs_R scr (d + 1) 113 7 [some (.ref t0)] [.int s0] (S, I, L, R) = (if s0 = 0 then ((hs_C scr d 28 [.ref t0, .int 9] (S, I, L, R)).bind fun o => hs_R scr (d + 1) 113 30 [some (.ref t0)] (o.1.toList ++ []) o.2) else ((hs_C scr d 68 [.ref t0, .int (I t0_8 17)] (S, I, L, R)).bind fun o => hs_R scr (d + 1) 113 21 [some (.ref t0)] (o.1.toList ++ []) o.2)) := Eq.trans (r_zeq d113_7 rfl) (q_ite (Eq.trans (r_al_n d113_24 rfl) (Eq.trans (r_bp d113_25 kB_9) (r_cvE (as := [.int 9]) (r := []) d113_27 c113_120 ow28 o_t0.2.1 np28.symm rfl (hs_fitE mL28 (Nat.le_of_ble_eq_true rfl))))) (Eq.trans (r_al_n d113_10 rfl) (Eq.trans (r_al_n d113_11 rfl) (Eq.trans (r_getRe d113_12 f113_60 o_t0.2.1 e_t0_8 o_t0_8.1) (Eq.trans (r_getI d113_15 f113_223 o_t0_8.2.1) (r_cvE (as := [.int (I t0_8 17)]) (r := []) d113_18 c113_173 ow68 o_t0.2.1 np68.symm rfl (hs_fitE mL68 (Nat.le_of_ble_eq_true rfl))))))))
theorem b113_21 {t0 : Nat} {s0 : Int32}  : hs_R scr d 113 21 [some (.ref t0)] [.int s0] (S, I, L, R) = hs_R scr d 113 30 [some (.ref t0)] [.int s0] (S, I, L, R) := Eq.trans (r_goto d113_21 rfl) (rfl)
theorem b113_30 {t0 : Nat} {s0 : Int32}  : hs_R scr d 113 30 [some (.ref t0)] [.int s0] (S, I, L, R) = some (some (.int s0), (S, I, L, R)) := r_ri d113_30 rt113
theorem e115 {t0 : Nat} {x1 : Int32} {x2 : Int32} : hs_C scr d 115 [.ref t0, .int x1, .int x2] h = hs_R scr d 115 0 [some (.ref t0), some (.int x1), some (.int x2), none] [] h := by rw [hs_C, mL115]; rfl
theorem b115_0 {t0 : Nat} {x1 x2 : Int32} (o_t0 : ok10 S R t0) : hs_R scr (d + 1) 115 0 [some (.ref t0), some (.int x1), some (.int x2), none] [] (S, I, L, R) = ((hs_C scr d 107 [.ref t0, .int x1, .int x2, .int 0, .int 2] (S, I, L, R)).bind fun o => hs_R scr (d + 1) 115 8 [some (.ref t0), some (.int x1), some (.int x2), none] (o.1.toList ++ []) o.2) := Eq.trans (r_al_n d115_0 rfl) (Eq.trans (r_il_n d115_1 rfl) (Eq.trans (r_il_n d115_2 rfl) (Eq.trans (r_ic d115_3 kI_0) (Eq.trans (r_ic d115_4 kI_2) (r_cvE (as := [.int x1, .int x2, .int 0, .int 2]) (r := []) d115_5 c115_258 ow107 o_t0.2.1 np107.symm rfl (hs_fitE mL107 (Nat.le_of_ble_eq_true rfl)))))))
theorem b115_8 {t0 t0_8 : Nat} {x1 x2 s0 : Int32} (o_t0 : ok10 S R t0) (e_t0_8 : R t0 8 = t0_8) (o_t0_8 : ok4 S R t0_8) : hs_R scr (d + 1) 115 8 [some (.ref t0), some (.int x1), some (.int x2), none] [.int s0] (S, I, L, R) = (if s0 = 0 then (if hs_ib x1 8 = true then (if (I (t0_8 + 8) (Int32.toNatClampNeg x1)) = x2 then ((hs_C scr d 18 [.ref t0, .int 9] (S, I, L, R)).bind fun o => hs_R scr (d + 1) 115 41 [some (.ref t0), some (.int x1), some (.int x2), some (.int s0)] (o.1.toList ++ []) o.2) else (if hs_ib x1 8 = true then ((hs_C scr d 20 [.ref t0] (S, (hs_u I (t0_8 + 8) (Int32.toNatClampNeg x1) x2), L, R)).bind fun o => hs_R scr (d + 1) 115 59 [some (.ref t0), some (.int x1), some (.int x2), some (.int s0)] (o.1.toList ++ []) o.2) else none)) else none) else ((hs_C scr d 18 [.ref t0, .int s0] (S, I, L, R)).bind fun o => hs_R scr (d + 1) 115 18 [some (.ref t0), some (.int x1), some (.int x2), some (.int s0)] (o.1.toList ++ []) o.2)) := Eq.trans (r_is_n (loc' := [some (.ref t0), some (.int x1), some (.int x2), some (.int s0)]) d115_8 rfl) (Eq.trans (r_il_n d115_9 rfl) (Eq.trans (r_zeq d115_10 rfl) (q_ite (Eq.trans (r_al_n d115_19 rfl) (Eq.trans (r_getRe d115_20 f115_60 o_t0.2.1 e_t0_8 o_t0_8.1) (Eq.trans (r_getRe d115_23 f115_164 o_t0_8.2.1 (o_t0_8.2.2.2.2.1) (Nat.le_trans o_t0_8.1 (Nat.le_add_right _ _))) (Eq.trans (r_getRe d115_26 f115_208 (o_t0_8.2.2.2.2.2.1).2.1 ((o_t0_8.2.2.2.2.2.1).2.2.2.2.2.2.1) (Nat.le_trans (o_t0_8.2.2.2.2.2.1).1 (Nat.le_add_right _ _))) (Eq.trans (r_il_n d115_29 rfl) (Eq.trans (r_iald d115_30 ((o_t0_8.2.2.2.2.2.1).2.2.2.2.2.2.2.1)) (q_ite (Eq.trans (r_il_n d115_31 rfl) (Eq.trans (r_cne d115_32 rfl) (q_ite (Eq.trans (r_al_n d115_35 rfl) (Eq.trans (r_bp d115_36 kB_9) (r_cvE (as := [.int 9]) (r := []) d115_38 c115_101 ow18 o_t0.2.1 np18.symm rfl (hs_fitE mL18 (Nat.le_of_ble_eq_true rfl))))) (Eq.trans (r_al_n d115_42 rfl) (Eq.trans (r_getRe d115_43 f115_60 o_t0.2.1 e_t0_8 o_t0_8.1) (Eq.trans (r_getRe d115_46 f115_164 o_t0_8.2.1 (o_t0_8.2.2.2.2.1) (Nat.le_trans o_t0_8.1 (Nat.le_add_right _ _))) (Eq.trans (r_getRe d115_49 f115_208 (o_t0_8.2.2.2.2.2.1).2.1 ((o_t0_8.2.2.2.2.2.1).2.2.2.2.2.2.1) (Nat.le_trans (o_t0_8.2.2.2.2.2.1).1 (Nat.le_add_right _ _))) (Eq.trans (r_il_n d115_52 rfl) (Eq.trans (r_il_n d115_53 rfl) (Eq.trans (r_iast d115_54 ((o_t0_8.2.2.2.2.2.1).2.2.2.2.2.2.2.1)) (q_ite (Eq.trans (r_al_n d115_55 rfl) (r_cvE (as := []) (r := []) d115_56 c115_108 ow20 o_t0.2.1 np20.symm rfl (hs_fitE mL20 (Nat.le_of_ble_eq_true rfl)))) rfl))))))))))) rfl))))))) (Eq.trans (r_al_n d115_13 rfl) (Eq.trans (r_il_n d115_14 rfl) (r_cvE (as := [.int s0]) (r := []) d115_15 c115_101 ow18 o_t0.2.1 np18.symm rfl (hs_fitE mL18 (Nat.le_of_ble_eq_true rfl))))))))
theorem b115_18 {t0 : Nat} {x1 x2 x3 s0 : Int32}  : hs_R scr d 115 18 [some (.ref t0), some (.int x1), some (.int x2), some (.int x3)] [.int s0] (S, I, L, R) = (if s0 = 0 ∨ s0 = 1 then some (some (.int s0), (S, I, L, R)) else none) := r_rz d115_18 rt115
theorem b115_41 {t0 : Nat} {x1 x2 x3 s0 : Int32}  : hs_R scr d 115 41 [some (.ref t0), some (.int x1), some (.int x2), some (.int x3)] [.int s0] (S, I, L, R) = (if s0 = 0 ∨ s0 = 1 then some (some (.int s0), (S, I, L, R)) else none) := r_rz d115_41 rt115
theorem b115_59 {t0 : Nat} {x1 x2 x3 s0 : Int32}  : hs_R scr d 115 59 [some (.ref t0), some (.int x1), some (.int x2), some (.int x3)] [.int s0] (S, I, L, R) = (if s0 = 0 ∨ s0 = 1 then some (some (.int s0), (S, I, L, R)) else none) := r_rz d115_59 rt115
theorem e116 {t0 : Nat} {x1 : Int32} {x2 : Int32} : hs_C scr d 116 [.ref t0, .int x1, .int x2] h = hs_R scr d 116 0 [some (.ref t0), some (.int x1), some (.int x2)] [] h := by rw [hs_C, mL116]; rfl
theorem b116_0 {t0 : Nat} {x1 x2 : Int32} (o_t0 : ok10 S R t0) : hs_R scr (d + 1) 116 0 [some (.ref t0), some (.int x1), some (.int x2)] [] (S, I, L, R) = ((hs_C scr d 91 [.ref t0, .int x1] (S, I, L, R)).bind fun o => hs_R scr (d + 1) 116 5 [some (.ref t0), some (.int x1), some (.int x2)] (o.1.toList ++ []) o.2) := Eq.trans (r_al_n d116_0 rfl) (Eq.trans (r_il_n d116_1 rfl) (r_cvE (as := [.int x1]) (r := []) d116_2 c116_214 ow91 o_t0.2.1 np91.symm rfl (hs_fitE mL91 (Nat.le_of_ble_eq_true rfl))))
theorem b116_5 {t0 t0_8 : Nat} {x1 x2 s0 : Int32} (o_t0 : ok10 S R t0) (e_t0_8 : R t0 8 = t0_8) (o_t0_8 : ok4 S R t0_8) : hs_R scr (d + 1) 116 5 [some (.ref t0), some (.int x1), some (.int x2)] [.int s0] (S, I, L, R) = (if s0 = 0 then ((hs_C scr d 18 [.ref t0, .int 2] (S, I, L, R)).bind fun o => hs_R scr (d + 1) 116 13 [some (.ref t0), some (.int x1), some (.int x2)] (o.1.toList ++ []) o.2) else (if x2 < 1 then hs_R scr (d + 1) 116 25 [some (.ref t0), some (.int x1), some (.int x2)] [] (S, I, L, R) else (if x2 ≤ 99 then (if hs_ib x1 5 = true then ((hs_C scr d 20 [.ref t0] (S, (hs_u I (t0_8 + 10) (Int32.toNatClampNeg x1) x2), L, R)).bind fun o => hs_R scr (d + 1) 116 45 [some (.ref t0), some (.int x1), some (.int x2)] (o.1.toList ++ []) o.2) else none) else hs_R scr (d + 1) 116 25 [some (.ref t0), some (.int x1), some (.int x2)] [] (S, I, L, R)))) := Eq.trans (r_zne d116_5 rfl) (q_ite (Eq.trans (r_al_n d116_8 rfl) (Eq.trans (r_ic d116_9 kI_2) (r_cvE (as := [.int 2]) (r := []) d116_10 c116_101 ow18 o_t0.2.1 np18.symm rfl (hs_fitE mL18 (Nat.le_of_ble_eq_true rfl))))) (Eq.trans (r_il_n d116_14 rfl) (Eq.trans (r_ic d116_15 kI_1) (Eq.trans (r_clt d116_16 rfl) (q_ite (rfl) (Eq.trans (r_il_n d116_19 rfl) (Eq.trans (r_bp d116_20 kB_99) (Eq.trans (r_cle d116_22 rfl) (q_ite (Eq.trans (r_al_n d116_31 rfl) (Eq.trans (r_getRe d116_32 f116_60 o_t0.2.1 e_t0_8 o_t0_8.1) (Eq.trans (r_getRe d116_35 f116_217 o_t0_8.2.1 (o_t0_8.2.2.2.2.2.2.1) (Nat.le_trans o_t0_8.1 (Nat.le_add_right _ _))) (Eq.trans (r_il_n d116_38 rfl) (Eq.trans (r_il_n d116_39 rfl) (Eq.trans (r_iast d116_40 (o_t0_8.2.2.2.2.2.2.2.1)) (q_ite (Eq.trans (r_al_n d116_41 rfl) (r_cvE (as := []) (r := []) d116_42 c116_108 ow20 o_t0.2.1 np20.symm rfl (hs_fitE mL20 (Nat.le_of_ble_eq_true rfl)))) rfl))))))) (rfl))))))))))
theorem b116_13 {t0 : Nat} {x1 x2 s0 : Int32}  : hs_R scr d 116 13 [some (.ref t0), some (.int x1), some (.int x2)] [.int s0] (S, I, L, R) = (if s0 = 0 ∨ s0 = 1 then some (some (.int s0), (S, I, L, R)) else none) := r_rz d116_13 rt116
theorem b116_25 {t0 : Nat} {x1 x2 : Int32} (o_t0 : ok10 S R t0) : hs_R scr (d + 1) 116 25 [some (.ref t0), some (.int x1), some (.int x2)] [] (S, I, L, R) = ((hs_C scr d 18 [.ref t0, .int 5] (S, I, L, R)).bind fun o => hs_R scr (d + 1) 116 30 [some (.ref t0), some (.int x1), some (.int x2)] (o.1.toList ++ []) o.2) := Eq.trans (r_al_n d116_25 rfl) (Eq.trans (r_ic d116_26 kI_5) (r_cvE (as := [.int 5]) (r := []) d116_27 c116_101 ow18 o_t0.2.1 np18.symm rfl (hs_fitE mL18 (Nat.le_of_ble_eq_true rfl))))
theorem b116_30 {t0 : Nat} {x1 x2 s0 : Int32}  : hs_R scr d 116 30 [some (.ref t0), some (.int x1), some (.int x2)] [.int s0] (S, I, L, R) = (if s0 = 0 ∨ s0 = 1 then some (some (.int s0), (S, I, L, R)) else none) := r_rz d116_30 rt116
theorem b116_45 {t0 : Nat} {x1 x2 s0 : Int32}  : hs_R scr d 116 45 [some (.ref t0), some (.int x1), some (.int x2)] [.int s0] (S, I, L, R) = (if s0 = 0 ∨ s0 = 1 then some (some (.int s0), (S, I, L, R)) else none) := r_rz d116_45 rt116
theorem e117 {t0 : Nat} {x1 : Int32} {x2 : Int32} : hs_C scr d 117 [.ref t0, .int x1, .int x2] h = hs_R scr d 117 0 [some (.ref t0), some (.int x1), some (.int x2)] [] h := by rw [hs_C, mL117]; rfl
theorem b117_0 {t0 t0_8 : Nat} {x1 x2 : Int32} (o_t0 : ok10 S R t0) (e_t0_8 : R t0 8 = t0_8) (o_t0_8 : ok4 S R t0_8) : hs_R scr (d + 1) 117 0 [some (.ref t0), some (.int x1), some (.int x2)] [] (S, I, L, R) = (if x1 = 6 then (if x2 < 0 then hs_R scr (d + 1) 117 29 [some (.ref t0), some (.int x1), some (.int x2)] [] (S, I, L, R) else (if (16 : Int32) < x2 then hs_R scr (d + 1) 117 29 [some (.ref t0), some (.int x1), some (.int x2)] [] (S, I, L, R) else ((hs_C scr d 20 [.ref t0] (S, (hs_u I t0_8 13 x2), L, R)).bind fun o => hs_R scr (d + 1) 117 28 [some (.ref t0), some (.int x1), some (.int x2)] (o.1.toList ++ []) o.2))) else hs_R scr (d + 1) 117 29 [some (.ref t0), some (.int x1), some (.int x2)] [] (S, I, L, R)) := Eq.trans (r_il_n d117_0 rfl) (Eq.trans (r_bp d117_1 kB_6) (Eq.trans (r_cne d117_3 rfl) (q_ite (Eq.trans (r_il_n d117_6 rfl) (Eq.trans (r_zlt d117_7 rfl) (q_ite (rfl) (Eq.trans (r_il_n d117_10 rfl) (Eq.trans (r_bp d117_11 kB_16) (Eq.trans (r_cgt d117_13 rfl) (q_ite (rfl) (Eq.trans (r_al_n d117_16 rfl) (Eq.trans (r_getRe d117_17 f117_60 o_t0.2.1 e_t0_8 o_t0_8.1) (Eq.trans (r_il_n d117_20 rfl) (Eq.trans (r_putI d117_21 f117_274 o_t0_8.2.1) (Eq.trans (r_al_n d117_24 rfl) (r_cvE (as := []) (r := []) d117_25 c117_108 ow20 o_t0.2.1 np20.symm rfl (hs_fitE mL20 (Nat.le_of_ble_eq_true rfl))))))))))))))) (rfl))))
theorem b117_28 {t0 : Nat} {x1 x2 s0 : Int32}  : hs_R scr d 117 28 [some (.ref t0), some (.int x1), some (.int x2)] [.int s0] (S, I, L, R) = (if s0 = 0 ∨ s0 = 1 then some (some (.int s0), (S, I, L, R)) else none) := r_rz d117_28 rt117
theorem b117_29 {t0 t0_8 : Nat} {x1 x2 : Int32} (o_t0 : ok10 S R t0) (e_t0_8 : R t0 8 = t0_8) (o_t0_8 : ok4 S R t0_8) : hs_R scr (d + 1) 117 29 [some (.ref t0), some (.int x1), some (.int x2)] [] (S, I, L, R) = (if x1 = 7 then (if x2 < 1 then hs_R scr (d + 1) 117 59 [some (.ref t0), some (.int x1), some (.int x2)] [] (S, I, L, R) else (if (99 : Int32) < x2 then hs_R scr (d + 1) 117 59 [some (.ref t0), some (.int x1), some (.int x2)] [] (S, I, L, R) else ((hs_C scr d 20 [.ref t0] (S, (hs_u I t0_8 14 x2), L, R)).bind fun o => hs_R scr (d + 1) 117 58 [some (.ref t0), some (.int x1), some (.int x2)] (o.1.toList ++ []) o.2))) else hs_R scr (d + 1) 117 59 [some (.ref t0), some (.int x1), some (.int x2)] [] (S, I, L, R)) := Eq.trans (r_il_n d117_29 rfl) (Eq.trans (r_bp d117_30 kB_7) (Eq.trans (r_cne d117_32 rfl) (q_ite (Eq.trans (r_il_n d117_35 rfl) (Eq.trans (r_ic d117_36 kI_1) (Eq.trans (r_clt d117_37 rfl) (q_ite (rfl) (Eq.trans (r_il_n d117_40 rfl) (Eq.trans (r_bp d117_41 kB_99) (Eq.trans (r_cgt d117_43 rfl) (q_ite (rfl) (Eq.trans (r_al_n d117_46 rfl) (Eq.trans (r_getRe d117_47 f117_60 o_t0.2.1 e_t0_8 o_t0_8.1) (Eq.trans (r_il_n d117_50 rfl) (Eq.trans (r_putI d117_51 f117_277 o_t0_8.2.1) (Eq.trans (r_al_n d117_54 rfl) (r_cvE (as := []) (r := []) d117_55 c117_108 ow20 o_t0.2.1 np20.symm rfl (hs_fitE mL20 (Nat.le_of_ble_eq_true rfl)))))))))))))))) (rfl))))
theorem b117_58 {t0 : Nat} {x1 x2 s0 : Int32}  : hs_R scr d 117 58 [some (.ref t0), some (.int x1), some (.int x2)] [.int s0] (S, I, L, R) = (if s0 = 0 ∨ s0 = 1 then some (some (.int s0), (S, I, L, R)) else none) := r_rz d117_58 rt117
theorem b117_59 {t0 : Nat} {x1 x2 : Int32} (o_t0 : ok10 S R t0) : hs_R scr (d + 1) 117 59 [some (.ref t0), some (.int x1), some (.int x2)] [] (S, I, L, R) = ((hs_C scr d 18 [.ref t0, .int 5] (S, I, L, R)).bind fun o => hs_R scr (d + 1) 117 64 [some (.ref t0), some (.int x1), some (.int x2)] (o.1.toList ++ []) o.2) := Eq.trans (r_al_n d117_59 rfl) (Eq.trans (r_ic d117_60 kI_5) (r_cvE (as := [.int 5]) (r := []) d117_61 c117_101 ow18 o_t0.2.1 np18.symm rfl (hs_fitE mL18 (Nat.le_of_ble_eq_true rfl))))
theorem b117_64 {t0 : Nat} {x1 x2 s0 : Int32}  : hs_R scr d 117 64 [some (.ref t0), some (.int x1), some (.int x2)] [.int s0] (S, I, L, R) = (if s0 = 0 ∨ s0 = 1 then some (some (.int s0), (S, I, L, R)) else none) := r_rz d117_64 rt117
theorem e118 {t0 : Nat} {x1 : Int32} {x2 : Int32} {x3 : Int32} : hs_C scr d 118 [.ref t0, .int x1, .int x2, .int x3] h = hs_R scr d 118 0 [some (.ref t0), some (.int x1), some (.int x2), some (.int x3)] [] h := by rw [hs_C, mL118]; rfl
theorem b118_0 {t0 : Nat} {x1 x2 x3 : Int32} (o_t0 : ok10 S R t0) : hs_R scr (d + 1) 118 0 [some (.ref t0), some (.int x1), some (.int x2), some (.int x3)] [] (S, I, L, R) = ((hs_C scr d 95 [.ref t0, .int x1] (S, I, L, R)).bind fun o => hs_R scr (d + 1) 118 5 [some (.ref t0), some (.int x1), some (.int x2), some (.int x3)] (o.1.toList ++ []) o.2) := Eq.trans (r_al_n d118_0 rfl) (Eq.trans (r_il_n d118_1 rfl) (r_cvE (as := [.int x1]) (r := []) d118_2 c118_232 ow95 o_t0.2.1 np95.symm rfl (hs_fitE mL95 (Nat.le_of_ble_eq_true rfl))))
theorem b118_5 {t0 : Nat} {x1 x2 x3 s0 : Int32} (o_t0 : ok10 S R t0) : hs_R scr (d + 1) 118 5 [some (.ref t0), some (.int x1), some (.int x2), some (.int x3)] [.int s0] (S, I, L, R) = (if s0 = 0 then hs_R scr (d + 1) 118 16 [some (.ref t0), some (.int x1), some (.int x2), some (.int x3)] [] (S, I, L, R) else ((hs_C scr d 89 [.ref t0, .int x2] (S, I, L, R)).bind fun o => hs_R scr (d + 1) 118 13 [some (.ref t0), some (.int x1), some (.int x2), some (.int x3)] (o.1.toList ++ []) o.2)) := Eq.trans (r_zeq d118_5 rfl) (q_ite (rfl) (Eq.trans (r_al_n d118_8 rfl) (Eq.trans (r_il_n d118_9 rfl) (r_cvE (as := [.int x2]) (r := []) d118_10 c118_199 ow89 o_t0.2.1 np89.symm rfl (hs_fitE mL89 (Nat.le_of_ble_eq_true rfl))))))
theorem b118_13 {t0 t0_8 : Nat} {x1 x2 x3 s0 : Int32} (o_t0 : ok10 S R t0) (e_t0_8 : R t0 8 = t0_8) (o_t0_8 : ok4 S R t0_8) : hs_R scr (d + 1) 118 13 [some (.ref t0), some (.int x1), some (.int x2), some (.int x3)] [.int s0] (S, I, L, R) = (if s0 = 0 then hs_R scr (d + 1) 118 16 [some (.ref t0), some (.int x1), some (.int x2), some (.int x3)] [] (S, I, L, R) else (if x3 < 0 then hs_R scr (d + 1) 118 31 [some (.ref t0), some (.int x1), some (.int x2), some (.int x3)] [] (S, I, L, R) else (if x3 ≤ 3 then ((hs_C scr d 96 [.ref t0_8, .int x1, .int x2] (S, I, L, R)).bind fun o => hs_R scr (d + 1) 118 46 [some (.ref t0), some (.int x1), some (.int x2), some (.int x3)] (o.1.toList ++ []) o.2) else hs_R scr (d + 1) 118 31 [some (.ref t0), some (.int x1), some (.int x2), some (.int x3)] [] (S, I, L, R)))) := Eq.trans (r_zne d118_13 rfl) (q_ite (rfl) (Eq.trans (r_il_n d118_22 rfl) (Eq.trans (r_zlt d118_23 rfl) (q_ite (rfl) (Eq.trans (r_il_n d118_26 rfl) (Eq.trans (r_ic d118_27 kI_3) (Eq.trans (r_cle d118_28 rfl) (q_ite (Eq.trans (r_al_n d118_37 rfl) (Eq.trans (r_getRe d118_38 f118_60 o_t0.2.1 e_t0_8 o_t0_8.1) (Eq.trans (r_il_n d118_41 rfl) (Eq.trans (r_il_n d118_42 rfl) (r_cvE (as := [.int x1, .int x2]) (r := []) d118_43 c118_235 ow96 o_t0_8.2.1 np96.symm rfl (hs_fitE mL96 (Nat.le_of_ble_eq_true rfl))))))) (rfl)))))))))
theorem b118_16 {t0 : Nat} {x1 x2 x3 : Int32} (o_t0 : ok10 S R t0) : hs_R scr (d + 1) 118 16 [some (.ref t0), some (.int x1), some (.int x2), some (.int x3)] [] (S, I, L, R) = ((hs_C scr d 18 [.ref t0, .int 2] (S, I, L, R)).bind fun o => hs_R scr (d + 1) 118 21 [some (.ref t0), some (.int x1), some (.int x2), some (.int x3)] (o.1.toList ++ []) o.2) := Eq.trans (r_al_n d118_16 rfl) (Eq.trans (r_ic d118_17 kI_2) (r_cvE (as := [.int 2]) (r := []) d118_18 c118_101 ow18 o_t0.2.1 np18.symm rfl (hs_fitE mL18 (Nat.le_of_ble_eq_true rfl))))
theorem b118_21 {t0 : Nat} {x1 x2 x3 s0 : Int32}  : hs_R scr d 118 21 [some (.ref t0), some (.int x1), some (.int x2), some (.int x3)] [.int s0] (S, I, L, R) = (if s0 = 0 ∨ s0 = 1 then some (some (.int s0), (S, I, L, R)) else none) := r_rz d118_21 rt118
theorem b118_31 {t0 : Nat} {x1 x2 x3 : Int32} (o_t0 : ok10 S R t0) : hs_R scr (d + 1) 118 31 [some (.ref t0), some (.int x1), some (.int x2), some (.int x3)] [] (S, I, L, R) = ((hs_C scr d 18 [.ref t0, .int 5] (S, I, L, R)).bind fun o => hs_R scr (d + 1) 118 36 [some (.ref t0), some (.int x1), some (.int x2), some (.int x3)] (o.1.toList ++ []) o.2) := Eq.trans (r_al_n d118_31 rfl) (Eq.trans (r_ic d118_32 kI_5) (r_cvE (as := [.int 5]) (r := []) d118_33 c118_101 ow18 o_t0.2.1 np18.symm rfl (hs_fitE mL18 (Nat.le_of_ble_eq_true rfl))))
theorem b118_36 {t0 : Nat} {x1 x2 x3 s0 : Int32}  : hs_R scr d 118 36 [some (.ref t0), some (.int x1), some (.int x2), some (.int x3)] [.int s0] (S, I, L, R) = (if s0 = 0 ∨ s0 = 1 then some (some (.int s0), (S, I, L, R)) else none) := r_rz d118_36 rt118
theorem b118_46 {t0 t0_8 : Nat} {x1 x2 x3 s0 : Int32} (o_t0 : ok10 S R t0) (e_t0_8 : R t0 8 = t0_8) (o_t0_8 : ok4 S R t0_8) : hs_R scr (d + 1) 118 46 [some (.ref t0), some (.int x1), some (.int x2), some (.int x3)] [.int s0] (S, I, L, R) = (if s0 = x3 then ((hs_C scr d 18 [.ref t0, .int 9] (S, I, L, R)).bind fun o => hs_R scr (d + 1) 118 56 [some (.ref t0), some (.int x1), some (.int x2), some (.int x3)] (o.1.toList ++ []) o.2) else ((hs_C scr d 62 [.ref t0_8, .int x1, .int x2, .int x3] (S, I, L, R)).bind fun o => hs_R scr (d + 1) 118 67 [some (.ref t0), some (.int x1), some (.int x2), some (.int x3)] (o.1.toList ++ []) o.2)) := Eq.trans (r_il_n d118_46 rfl) (Eq.trans (r_cne d118_47 rfl) (q_ite (Eq.trans (r_al_n d118_50 rfl) (Eq.trans (r_bp d118_51 kB_9) (r_cvE (as := [.int 9]) (r := []) d118_53 c118_101 ow18 o_t0.2.1 np18.symm rfl (hs_fitE mL18 (Nat.le_of_ble_eq_true rfl))))) (Eq.trans (r_al_n d118_57 rfl) (Eq.trans (r_getRe d118_58 f118_60 o_t0.2.1 e_t0_8 o_t0_8.1) (Eq.trans (r_il_n d118_61 rfl) (Eq.trans (r_il_n d118_62 rfl) (Eq.trans (r_il_n d118_63 rfl) (r_cvE (as := [.int x1, .int x2, .int x3]) (r := []) d118_64 c118_280 ow62 o_t0_8.2.1 np62.symm rfl (hs_fitE mL62 (Nat.le_of_ble_eq_true rfl))))))))))
theorem b118_56 {t0 : Nat} {x1 x2 x3 s0 : Int32}  : hs_R scr d 118 56 [some (.ref t0), some (.int x1), some (.int x2), some (.int x3)] [.int s0] (S, I, L, R) = (if s0 = 0 ∨ s0 = 1 then some (some (.int s0), (S, I, L, R)) else none) := r_rz d118_56 rt118
theorem b118_67 {t0 : Nat} {x1 x2 x3 : Int32} (o_t0 : ok10 S R t0) : hs_R scr (d + 1) 118 67 [some (.ref t0), some (.int x1), some (.int x2), some (.int x3)] [] (S, I, L, R) = ((hs_C scr d 20 [.ref t0] (S, I, L, R)).bind fun o => hs_R scr (d + 1) 118 71 [some (.ref t0), some (.int x1), some (.int x2), some (.int x3)] (o.1.toList ++ []) o.2) := Eq.trans (r_al_n d118_67 rfl) (r_cvE (as := []) (r := []) d118_68 c118_108 ow20 o_t0.2.1 np20.symm rfl (hs_fitE mL20 (Nat.le_of_ble_eq_true rfl)))
theorem b118_71 {t0 : Nat} {x1 x2 x3 s0 : Int32}  : hs_R scr d 118 71 [some (.ref t0), some (.int x1), some (.int x2), some (.int x3)] [.int s0] (S, I, L, R) = (if s0 = 0 ∨ s0 = 1 then some (some (.int s0), (S, I, L, R)) else none) := r_rz d118_71 rt118
theorem e119 {t0 : Nat} {x1 : Int32} {x2 : Int32} : hs_C scr d 119 [.ref t0, .int x1, .int x2] h = hs_R scr d 119 0 [some (.ref t0), some (.int x1), some (.int x2)] [] h := by rw [hs_C, mL119]; rfl
theorem b119_0 {t0 t0_8 : Nat} {x1 x2 : Int32} (o_t0 : ok10 S R t0) (e_t0_8 : R t0 8 = t0_8) (o_t0_8 : ok4 S R t0_8) : hs_R scr (d + 1) 119 0 [some (.ref t0), some (.int x1), some (.int x2)] [] (S, I, L, R) = (if x1 < 0 then hs_R scr (d + 1) 119 20 [some (.ref t0), some (.int x1), some (.int x2)] [] (S, I, L, R) else (if (99 : Int32) < x1 then hs_R scr (d + 1) 119 20 [some (.ref t0), some (.int x1), some (.int x2)] [] (S, I, L, R) else (if x2 < 0 then hs_R scr (d + 1) 119 20 [some (.ref t0), some (.int x1), some (.int x2)] [] (S, I, L, R) else (if x2 ≤ 9 then (if (I (t0_8 + 5) 4) < 8 then ((hs_C scr d 58 [.ref (t0_8 + 5), .int x1, .int x2, .int 1] (S, I, L, R)).bind fun o => hs_R scr (d + 1) 119 61 [some (.ref t0), some (.int x1), some (.int x2)] (o.1.toList ++ []) o.2) else ((hs_C scr d 28 [.ref t0, .int 7] (S, I, L, R)).bind fun o => hs_R scr (d + 1) 119 47 [some (.ref t0), some (.int x1), some (.int x2)] (o.1.toList ++ []) o.2)) else hs_R scr (d + 1) 119 20 [some (.ref t0), some (.int x1), some (.int x2)] [] (S, I, L, R))))) := Eq.trans (r_il_n d119_0 rfl) (Eq.trans (r_zlt d119_1 rfl) (q_ite (rfl) (Eq.trans (r_il_n d119_4 rfl) (Eq.trans (r_bp d119_5 kB_99) (Eq.trans (r_cgt d119_7 rfl) (q_ite (rfl) (Eq.trans (r_il_n d119_10 rfl) (Eq.trans (r_zlt d119_11 rfl) (q_ite (rfl) (Eq.trans (r_il_n d119_14 rfl) (Eq.trans (r_bp d119_15 kB_9) (Eq.trans (r_cle d119_17 rfl) (q_ite (Eq.trans (r_al_n d119_26 rfl) (Eq.trans (r_getRe d119_27 f119_60 o_t0.2.1 e_t0_8 o_t0_8.1) (Eq.trans (r_getRe d119_30 f119_164 o_t0_8.2.1 (o_t0_8.2.2.2.2.1) (Nat.le_trans o_t0_8.1 (Nat.le_add_right _ _))) (Eq.trans (r_getI d119_33 f119_168 (o_t0_8.2.2.2.2.2.1).2.1) (Eq.trans (r_bp d119_36 kB_8) (Eq.trans (r_clt d119_38 rfl) (q_ite (Eq.trans (r_al_n d119_48 rfl) (Eq.trans (r_getRe d119_49 f119_60 o_t0.2.1 e_t0_8 o_t0_8.1) (Eq.trans (r_getRe d119_52 f119_164 o_t0_8.2.1 (o_t0_8.2.2.2.2.1) (Nat.le_trans o_t0_8.1 (Nat.le_add_right _ _))) (Eq.trans (r_il_n d119_55 rfl) (Eq.trans (r_il_n d119_56 rfl) (Eq.trans (r_ic d119_57 kI_1) (r_cvE (as := [.int x1, .int x2, .int 1]) (r := []) d119_58 c119_284 ow58 (o_t0_8.2.2.2.2.2.1).2.1 np58.symm rfl (hs_fitE mL58 (Nat.le_of_ble_eq_true rfl))))))))) (Eq.trans (r_al_n d119_41 rfl) (Eq.trans (r_bp d119_42 kB_7) (r_cvE (as := [.int 7]) (r := []) d119_44 c119_120 ow28 o_t0.2.1 np28.symm rfl (hs_fitE mL28 (Nat.le_of_ble_eq_true rfl)))))))))))) (rfl))))))))))))))
theorem b119_20 {t0 : Nat} {x1 x2 : Int32} (o_t0 : ok10 S R t0) : hs_R scr (d + 1) 119 20 [some (.ref t0), some (.int x1), some (.int x2)] [] (S, I, L, R) = ((hs_C scr d 28 [.ref t0, .int 5] (S, I, L, R)).bind fun o => hs_R scr (d + 1) 119 25 [some (.ref t0), some (.int x1), some (.int x2)] (o.1.toList ++ []) o.2) := Eq.trans (r_al_n d119_20 rfl) (Eq.trans (r_ic d119_21 kI_5) (r_cvE (as := [.int 5]) (r := []) d119_22 c119_120 ow28 o_t0.2.1 np28.symm rfl (hs_fitE mL28 (Nat.le_of_ble_eq_true rfl))))
theorem b119_25 {t0 : Nat} {x1 x2 s0 : Int32}  : hs_R scr d 119 25 [some (.ref t0), some (.int x1), some (.int x2)] [.int s0] (S, I, L, R) = some (some (.int s0), (S, I, L, R)) := r_ri d119_25 rt119
theorem b119_47 {t0 : Nat} {x1 x2 s0 : Int32}  : hs_R scr d 119 47 [some (.ref t0), some (.int x1), some (.int x2)] [.int s0] (S, I, L, R) = some (some (.int s0), (S, I, L, R)) := r_ri d119_47 rt119
theorem b119_61 {t0 t0_8 : Nat} {x1 x2 : Int32} (o_t0 : ok10 S R t0) (e_t0_8 : R t0 8 = t0_8) (o_t0_8 : ok4 S R t0_8) : hs_R scr (d + 1) 119 61 [some (.ref t0), some (.int x1), some (.int x2)] [] (S, I, L, R) = ((hs_C scr d 68 [.ref t0, .int ((I (t0_8 + 5) 4) - 1)] (S, I, L, R)).bind fun o => hs_R scr (d + 1) 119 77 [some (.ref t0), some (.int x1), some (.int x2)] (o.1.toList ++ []) o.2) := Eq.trans (r_al_n d119_61 rfl) (Eq.trans (r_al_n d119_62 rfl) (Eq.trans (r_getRe d119_63 f119_60 o_t0.2.1 e_t0_8 o_t0_8.1) (Eq.trans (r_getRe d119_66 f119_164 o_t0_8.2.1 (o_t0_8.2.2.2.2.1) (Nat.le_trans o_t0_8.1 (Nat.le_add_right _ _))) (Eq.trans (r_getI d119_69 f119_168 (o_t0_8.2.2.2.2.2.1).2.1) (Eq.trans (r_ic d119_72 kI_1) (Eq.trans (r_isub d119_73) (r_cvE (as := [.int ((I (t0_8 + 5) 4) - 1)]) (r := []) d119_74 c119_173 ow68 o_t0.2.1 np68.symm rfl (hs_fitE mL68 (Nat.le_of_ble_eq_true rfl)))))))))
theorem b119_77 {t0 : Nat} {x1 x2 s0 : Int32}  : hs_R scr d 119 77 [some (.ref t0), some (.int x1), some (.int x2)] [.int s0] (S, I, L, R) = some (some (.int s0), (S, I, L, R)) := r_ri d119_77 rt119
theorem e120 {t0 : Nat} {x1 : Int32} : hs_C scr d 120 [.ref t0, .int x1] h = hs_R scr d 120 0 [some (.ref t0), some (.int x1)] [] h := by rw [hs_C, mL120]; rfl
theorem b120_0 {t0 : Nat} {x1 : Int32} (o_t0 : ok10 S R t0) : hs_R scr (d + 1) 120 0 [some (.ref t0), some (.int x1)] [] (S, I, L, R) = ((hs_C scr d 95 [.ref t0, .int x1] (S, I, L, R)).bind fun o => hs_R scr (d + 1) 120 5 [some (.ref t0), some (.int x1)] (o.1.toList ++ []) o.2) := Eq.trans (r_al_n d120_0 rfl) (Eq.trans (r_il_n d120_1 rfl) (r_cvE (as := [.int x1]) (r := []) d120_2 c120_232 ow95 o_t0.2.1 np95.symm rfl (hs_fitE mL95 (Nat.le_of_ble_eq_true rfl))))
theorem b120_5 {t0 t0_8 : Nat} {x1 s0 : Int32} (o_t0 : ok10 S R t0) (e_t0_8 : R t0 8 = t0_8) (o_t0_8 : ok4 S R t0_8) : hs_R scr (d + 1) 120 5 [some (.ref t0), some (.int x1)] [.int s0] (S, I, L, R) = (if s0 = 0 then ((hs_C scr d 28 [.ref t0, .int 2] (S, I, L, R)).bind fun o => hs_R scr (d + 1) 120 13 [some (.ref t0), some (.int x1)] (o.1.toList ++ []) o.2) else ((hs_C scr d 121 [.ref t0_8, .int x1, .int 0] (S, I, L, R)).bind fun o => hs_R scr (d + 1) 120 24 [some (.ref t0), some (.int x1)] (o.1.toList ++ [.ref t0]) o.2)) := Eq.trans (r_zne d120_5 rfl) (q_ite (Eq.trans (r_al_n d120_8 rfl) (Eq.trans (r_ic d120_9 kI_2) (r_cvE (as := [.int 2]) (r := []) d120_10 c120_120 ow28 o_t0.2.1 np28.symm rfl (hs_fitE mL28 (Nat.le_of_ble_eq_true rfl))))) (Eq.trans (r_al_n d120_14 rfl) (Eq.trans (r_al_n d120_15 rfl) (Eq.trans (r_getRe d120_16 f120_60 o_t0.2.1 e_t0_8 o_t0_8.1) (Eq.trans (r_il_n d120_19 rfl) (Eq.trans (r_ic d120_20 kI_0) (r_cvE (as := [.int x1, .int 0]) (r := [.ref t0]) d120_21 c120_287 ow121 o_t0_8.2.1 np121.symm rfl (hs_fitE mL121 (Nat.le_of_ble_eq_true rfl)))))))))
theorem b120_13 {t0 : Nat} {x1 s0 : Int32}  : hs_R scr d 120 13 [some (.ref t0), some (.int x1)] [.int s0] (S, I, L, R) = some (some (.int s0), (S, I, L, R)) := r_ri d120_13 rt120
theorem b120_24 {t0 u0 : Nat} {x1 s1 : Int32}  : hs_R scr d 120 24 [some (.ref t0), some (.int x1)] [.int s1, .ref u0] (S, I, L, R) = (if s1 = 0 then hs_R scr d 120 32 [some (.ref t0), some (.int x1)] [.int 0, .ref u0] (S, I, L, R) else hs_R scr d 120 32 [some (.ref t0), some (.int x1)] [.int 1, .ref u0] (S, I, L, R)) := Eq.trans (r_zeq d120_24 rfl) (q_ite (Eq.trans (r_ic d120_31 kI_0) (rfl)) (Eq.trans (r_ic d120_27 kI_1) (Eq.trans (r_goto d120_28 rfl) (rfl))))
theorem b120_32 {t0 u0 : Nat} {x1 s1 : Int32} (o_u0 : ok10 S R u0) : hs_R scr (d + 1) 120 32 [some (.ref t0), some (.int x1)] [.int s1, .ref u0] (S, I, L, R) = ((hs_C scr d 68 [.ref u0, .int s1] (S, I, L, R)).bind fun o => hs_R scr (d + 1) 120 35 [some (.ref t0), some (.int x1)] (o.1.toList ++ []) o.2) := r_cvE (as := [.int s1]) (r := []) d120_32 c120_173 ow68 o_u0.2.1 np68.symm rfl (hs_fitE mL68 (Nat.le_of_ble_eq_true rfl))
theorem b120_35 {t0 : Nat} {x1 s0 : Int32}  : hs_R scr d 120 35 [some (.ref t0), some (.int x1)] [.int s0] (S, I, L, R) = some (some (.int s0), (S, I, L, R)) := r_ri d120_35 rt120
theorem e122 {t0 : Nat} : hs_C scr d 122 [.ref t0] h = hs_R scr d 122 0 [some (.ref t0), none] [] h := by rw [hs_C, mL122]; rfl
theorem b122_0 {t0 : Nat}  : hs_R scr d 122 0 [some (.ref t0), none] [] (S, I, L, R) = hs_R scr d 122 2 [some (.ref t0), some (.int 0)] [] (S, I, L, R) := Eq.trans (r_ic d122_0 kI_0) (Eq.trans (r_is_n (loc' := [some (.ref t0), some (.int 0)]) d122_1 rfl) (rfl))
theorem b122_2 {t0 t0_8 : Nat} {x1 : Int32} (o_t0 : ok10 S R t0) (e_t0_8 : R t0 8 = t0_8) (o_t0_8 : ok4 S R t0_8) : hs_R scr (d + 1) 122 2 [some (.ref t0), some (.int x1)] [] (S, I, L, R) = (if (I t0_8 10) ≤ x1 then ((hs_C scr d 28 [.ref t0, .int 8] (S, I, L, R)).bind fun o => hs_R scr (d + 1) 122 43 [some (.ref t0), some (.int x1)] (o.1.toList ++ []) o.2) else ((hs_C scr d 121 [.ref t0_8, .int x1, .int 0] (S, I, L, R)).bind fun o => hs_R scr (d + 1) 122 22 [some (.ref t0), some (.int x1)] (o.1.toList ++ []) o.2)) := Eq.trans (r_il_n d122_2 rfl) (Eq.trans (r_al_n d122_3 rfl) (Eq.trans (r_getRe d122_4 f122_60 o_t0.2.1 e_t0_8 o_t0_8.1) (Eq.trans (r_getI d122_7 f122_290 o_t0_8.2.1) (Eq.trans (r_cge d122_10 rfl) (q_ite (Eq.trans (r_al_n d122_37 rfl) (Eq.trans (r_bp d122_38 kB_8) (r_cvE (as := [.int 8]) (r := []) d122_40 c122_120 ow28 o_t0.2.1 np28.symm rfl (hs_fitE mL28 (Nat.le_of_ble_eq_true rfl))))) (Eq.trans (r_al_n d122_13 rfl) (Eq.trans (r_getRe d122_14 f122_60 o_t0.2.1 e_t0_8 o_t0_8.1) (Eq.trans (r_il_n d122_17 rfl) (Eq.trans (r_ic d122_18 kI_0) (r_cvE (as := [.int x1, .int 0]) (r := []) d122_19 c122_287 ow121 o_t0_8.2.1 np121.symm rfl (hs_fitE mL121 (Nat.le_of_ble_eq_true rfl))))))))))))
theorem b122_22 {t0 : Nat} {x1 s0 : Int32} (o_t0 : ok10 S R t0) : hs_R scr (d + 1) 122 22 [some (.ref t0), some (.int x1)] [.int s0] (S, I, L, R) = (if s0 = 0 then hs_R scr (d + 1) 122 2 [some (.ref t0), some (.int (x1 + 1))] [] (S, I, L, R) else ((hs_C scr d 68 [.ref t0, .int x1] (S, I, L, R)).bind fun o => hs_R scr (d + 1) 122 30 [some (.ref t0), some (.int x1)] (o.1.toList ++ []) o.2)) := Eq.trans (r_zeq d122_22 rfl) (q_ite (Eq.trans (r_inc (loc' := [some (.ref t0), some (.int (x1 + 1))]) d122_31 kI_1 rfl rfl) (Eq.trans (r_goto d122_34 rfl) (rfl))) (Eq.trans (r_al_n d122_25 rfl) (Eq.trans (r_il_n d122_26 rfl) (r_cvE (as := [.int x1]) (r := []) d122_27 c122_173 ow68 o_t0.2.1 np68.symm rfl (hs_fitE mL68 (Nat.le_of_ble_eq_true rfl))))))
theorem b122_30 {t0 : Nat} {x1 s0 : Int32}  : hs_R scr d 122 30 [some (.ref t0), some (.int x1)] [.int s0] (S, I, L, R) = some (some (.int s0), (S, I, L, R)) := r_ri d122_30 rt122
theorem b122_43 {t0 : Nat} {x1 s0 : Int32}  : hs_R scr d 122 43 [some (.ref t0), some (.int x1)] [.int s0] (S, I, L, R) = some (some (.int s0), (S, I, L, R)) := r_ri d122_43 rt122
theorem e123 {t0 : Nat} {x1 : Int32} : hs_C scr d 123 [.ref t0, .int x1] h = hs_R scr d 123 0 [some (.ref t0), some (.int x1), none, none, none] [] h := by rw [hs_C, mL123]; rfl
theorem b123_0 {t0 : Nat} {x1 : Int32} (o_t0 : ok10 S R t0) : hs_R scr (d + 1) 123 0 [some (.ref t0), some (.int x1), none, none, none] [] (S, I, L, R) = ((hs_C scr d 95 [.ref t0, .int x1] (S, I, L, R)).bind fun o => hs_R scr (d + 1) 123 5 [some (.ref t0), some (.int x1), none, none, none] (o.1.toList ++ []) o.2) := Eq.trans (r_al_n d123_0 rfl) (Eq.trans (r_il_n d123_1 rfl) (r_cvE (as := [.int x1]) (r := []) d123_2 c123_232 ow95 o_t0.2.1 np95.symm rfl (hs_fitE mL95 (Nat.le_of_ble_eq_true rfl))))
theorem b123_5 {t0 : Nat} {x1 s0 : Int32} (o_t0 : ok10 S R t0) : hs_R scr (d + 1) 123 5 [some (.ref t0), some (.int x1), none, none, none] [.int s0] (S, I, L, R) = (if s0 = 0 then ((hs_C scr d 28 [.ref t0, .int 2] (S, I, L, R)).bind fun o => hs_R scr (d + 1) 123 13 [some (.ref t0), some (.int x1), none, none, none] (o.1.toList ++ []) o.2) else hs_R scr (d + 1) 123 18 [some (.ref t0), some (.int x1), some (.int 0), some (.int 0), none] [] (S, I, L, R)) := Eq.trans (r_zne d123_5 rfl) (q_ite (Eq.trans (r_al_n d123_8 rfl) (Eq.trans (r_ic d123_9 kI_2) (r_cvE (as := [.int 2]) (r := []) d123_10 c123_120 ow28 o_t0.2.1 np28.symm rfl (hs_fitE mL28 (Nat.le_of_ble_eq_true rfl))))) (Eq.trans (r_ic d123_14 kI_0) (Eq.trans (r_is_n (loc' := [some (.ref t0), some (.int x1), some (.int 0), none, none]) d123_15 rfl) (Eq.trans (r_ic d123_16 kI_0) (Eq.trans (r_is_n (loc' := [some (.ref t0), some (.int x1), some (.int 0), some (.int 0), none]) d123_17 rfl) (rfl))))))
theorem b123_13 {t0 : Nat} {x1 s0 : Int32}  : hs_R scr d 123 13 [some (.ref t0), some (.int x1), none, none, none] [.int s0] (S, I, L, R) = some (some (.int s0), (S, I, L, R)) := r_ri d123_13 rt123
theorem b123_18 {t0 t0_8 : Nat} {x1 x2 x3 : Int32} {w4 : Option Value} (o_t0 : ok10 S R t0) (e_t0_8 : R t0 8 = t0_8) (o_t0_8 : ok4 S R t0_8) : hs_R scr (d + 1) 123 18 [some (.ref t0), some (.int x1), some (.int x2), some (.int x3), w4] [] (S, I, L, R) = (if (I (t0_8 + 5) 4) ≤ x3 then ((hs_C scr d 68 [.ref t0, .int x2] (S, I, L, R)).bind fun o => hs_R scr (d + 1) 123 80 [some (.ref t0), some (.int x1), some (.int x2), some (.int x3), w4] (o.1.toList ++ []) o.2) else ((hs_C scr d 96 [.ref t0_8, .int x1, .int x3] (S, I, L, R)).bind fun o => hs_R scr (d + 1) 123 41 [some (.ref t0), some (.int x1), some (.int x2), some (.int x3), w4] (o.1.toList ++ []) o.2)) := Eq.trans (r_il_n d123_18 rfl) (Eq.trans (r_al_n d123_19 rfl) (Eq.trans (r_getRe d123_20 f123_60 o_t0.2.1 e_t0_8 o_t0_8.1) (Eq.trans (r_getRe d123_23 f123_164 o_t0_8.2.1 (o_t0_8.2.2.2.2.1) (Nat.le_trans o_t0_8.1 (Nat.le_add_right _ _))) (Eq.trans (r_getI d123_26 f123_168 (o_t0_8.2.2.2.2.2.1).2.1) (Eq.trans (r_cge d123_29 rfl) (q_ite (Eq.trans (r_al_n d123_75 rfl) (Eq.trans (r_il_n d123_76 rfl) (r_cvE (as := [.int x2]) (r := []) d123_77 c123_173 ow68 o_t0.2.1 np68.symm rfl (hs_fitE mL68 (Nat.le_of_ble_eq_true rfl))))) (Eq.trans (r_al_n d123_32 rfl) (Eq.trans (r_getRe d123_33 f123_60 o_t0.2.1 e_t0_8 o_t0_8.1) (Eq.trans (r_il_n d123_36 rfl) (Eq.trans (r_il_n d123_37 rfl) (r_cvE (as := [.int x1, .int x3]) (r := []) d123_38 c123_235 ow96 o_t0_8.2.1 np96.symm rfl (hs_fitE mL96 (Nat.le_of_ble_eq_true rfl)))))))))))))
theorem b123_41 {t0 t0_8 : Nat} {x1 x2 x3 s0 : Int32} {w4 : Option Value} (o_t0 : ok10 S R t0) (e_t0_8 : R t0 8 = t0_8) (o_t0_8 : ok4 S R t0_8) : hs_R scr d 123 41 [some (.ref t0), some (.int x1), some (.int x2), some (.int x3), w4] [.int s0] (S, I, L, R) = (if s0 = 3 then hs_R scr d 123 69 [some (.ref t0), some (.int x1), some (.int x2), some (.int x3), some (.int s0)] [] (S, I, L, R) else (if hs_ib x3 8 = true then (if s0 = (I (t0_8 + 8) (Int32.toNatClampNeg x3)) then hs_R scr d 123 69 [some (.ref t0), some (.int x1), some (.int x2), some (.int x3), some (.int s0)] [] (S, I, L, R) else hs_R scr d 123 69 [some (.ref t0), some (.int x1), some (.int (x2 + 1)), some (.int x3), some (.int s0)] [] (S, I, L, R)) else none)) := Eq.trans (r_is (loc' := [some (.ref t0), some (.int x1), some (.int x2), some (.int x3), some (.int s0)]) d123_41 rfl) (Eq.trans (r_il d123_43 rfl) (Eq.trans (r_ic d123_45 kI_3) (Eq.trans (r_ceq d123_46 rfl) (q_ite (rfl) (Eq.trans (r_il d123_49 rfl) (Eq.trans (r_al_n d123_51 rfl) (Eq.trans (r_getRe d123_52 f123_60 o_t0.2.1 e_t0_8 o_t0_8.1) (Eq.trans (r_getRe d123_55 f123_164 o_t0_8.2.1 (o_t0_8.2.2.2.2.1) (Nat.le_trans o_t0_8.1 (Nat.le_add_right _ _))) (Eq.trans (r_getRe d123_58 f123_208 (o_t0_8.2.2.2.2.2.1).2.1 ((o_t0_8.2.2.2.2.2.1).2.2.2.2.2.2.1) (Nat.le_trans (o_t0_8.2.2.2.2.2.1).1 (Nat.le_add_right _ _))) (Eq.trans (r_il_n d123_61 rfl) (Eq.trans (r_iald d123_62 ((o_t0_8.2.2.2.2.2.1).2.2.2.2.2.2.2.1)) (q_ite (Eq.trans (r_ceq d123_63 rfl) (q_ite (rfl) (Eq.trans (r_inc (loc' := [some (.ref t0), some (.int x1), some (.int (x2 + 1)), some (.int x3), some (.int s0)]) d123_66 kI_1 rfl rfl) (rfl)))) rfl))))))))))))
theorem b123_69 {t0 : Nat} {x1 x2 x3 x4 : Int32}  : hs_R scr d 123 69 [some (.ref t0), some (.int x1), some (.int x2), some (.int x3), some (.int x4)] [] (S, I, L, R) = hs_R scr d 123 18 [some (.ref t0), some (.int x1), some (.int x2), some (.int (x3 + 1)), some (.int x4)] [] (S, I, L, R) := Eq.trans (r_inc (loc' := [some (.ref t0), some (.int x1), some (.int x2), some (.int (x3 + 1)), some (.int x4)]) d123_69 kI_1 rfl rfl) (Eq.trans (r_goto d123_72 rfl) (rfl))
theorem b123_80 {t0 : Nat} {x1 x2 x3 s0 : Int32} {w4 : Option Value}  : hs_R scr d 123 80 [some (.ref t0), some (.int x1), some (.int x2), some (.int x3), w4] [.int s0] (S, I, L, R) = some (some (.int s0), (S, I, L, R)) := r_ri d123_80 rt123
theorem e124 {t0 : Nat} {x1 : Int32} : hs_C scr d 124 [.ref t0, .int x1] h = hs_R scr d 124 0 [some (.ref t0), some (.int x1), none] [] h := by rw [hs_C, mL124]; rfl
theorem b124_0 {t0 : Nat} {x1 : Int32} (o_t0 : ok10 S R t0) : hs_R scr (d + 1) 124 0 [some (.ref t0), some (.int x1), none] [] (S, I, L, R) = ((hs_C scr d 95 [.ref t0, .int x1] (S, I, L, R)).bind fun o => hs_R scr (d + 1) 124 5 [some (.ref t0), some (.int x1), none] (o.1.toList ++ []) o.2) := Eq.trans (r_al_n d124_0 rfl) (Eq.trans (r_il_n d124_1 rfl) (r_cvE (as := [.int x1]) (r := []) d124_2 c124_232 ow95 o_t0.2.1 np95.symm rfl (hs_fitE mL95 (Nat.le_of_ble_eq_true rfl))))
theorem b124_5 {t0 : Nat} {x1 s0 : Int32} (o_t0 : ok10 S R t0) : hs_R scr (d + 1) 124 5 [some (.ref t0), some (.int x1), none] [.int s0] (S, I, L, R) = (if s0 = 0 then ((hs_C scr d 28 [.ref t0, .int 2] (S, I, L, R)).bind fun o => hs_R scr (d + 1) 124 13 [some (.ref t0), some (.int x1), none] (o.1.toList ++ []) o.2) else hs_R scr (d + 1) 124 16 [some (.ref t0), some (.int x1), some (.int 0)] [] (S, I, L, R)) := Eq.trans (r_zne d124_5 rfl) (q_ite (Eq.trans (r_al_n d124_8 rfl) (Eq.trans (r_ic d124_9 kI_2) (r_cvE (as := [.int 2]) (r := []) d124_10 c124_120 ow28 o_t0.2.1 np28.symm rfl (hs_fitE mL28 (Nat.le_of_ble_eq_true rfl))))) (Eq.trans (r_ic d124_14 kI_0) (Eq.trans (r_is_n (loc' := [some (.ref t0), some (.int x1), some (.int 0)]) d124_15 rfl) (rfl))))
theorem b124_13 {t0 : Nat} {x1 s0 : Int32}  : hs_R scr d 124 13 [some (.ref t0), some (.int x1), none] [.int s0] (S, I, L, R) = some (some (.int s0), (S, I, L, R)) := r_ri d124_13 rt124
theorem b124_16 {t0 t0_8 : Nat} {x1 x2 : Int32} (o_t0 : ok10 S R t0) (e_t0_8 : R t0 8 = t0_8) (o_t0_8 : ok4 S R t0_8) : hs_R scr (d + 1) 124 16 [some (.ref t0), some (.int x1), some (.int x2)] [] (S, I, L, R) = (if (200 : Int32) < x2 then ((hs_C scr d 28 [.ref t0, .int 8] (S, I, L, R)).bind fun o => hs_R scr (d + 1) 124 53 [some (.ref t0), some (.int x1), some (.int x2)] (o.1.toList ++ []) o.2) else ((hs_C scr d 121 [.ref t0_8, .int x1, .int x2] (S, I, L, R)).bind fun o => hs_R scr (d + 1) 124 32 [some (.ref t0), some (.int x1), some (.int x2)] (o.1.toList ++ []) o.2)) := Eq.trans (r_il_n d124_16 rfl) (Eq.trans (r_sp d124_17 kS_200) (Eq.trans (r_cgt d124_20 rfl) (q_ite (Eq.trans (r_al_n d124_47 rfl) (Eq.trans (r_bp d124_48 kB_8) (r_cvE (as := [.int 8]) (r := []) d124_50 c124_120 ow28 o_t0.2.1 np28.symm rfl (hs_fitE mL28 (Nat.le_of_ble_eq_true rfl))))) (Eq.trans (r_al_n d124_23 rfl) (Eq.trans (r_getRe d124_24 f124_60 o_t0.2.1 e_t0_8 o_t0_8.1) (Eq.trans (r_il_n d124_27 rfl) (Eq.trans (r_il_n d124_28 rfl) (r_cvE (as := [.int x1, .int x2]) (r := []) d124_29 c124_287 ow121 o_t0_8.2.1 np121.symm rfl (hs_fitE mL121 (Nat.le_of_ble_eq_true rfl))))))))))
theorem b124_32 {t0 : Nat} {x1 x2 s0 : Int32} (o_t0 : ok10 S R t0) : hs_R scr (d + 1) 124 32 [some (.ref t0), some (.int x1), some (.int x2)] [.int s0] (S, I, L, R) = (if s0 = 0 then hs_R scr (d + 1) 124 16 [some (.ref t0), some (.int x1), some (.int (x2 + 1))] [] (S, I, L, R) else ((hs_C scr d 68 [.ref t0, .int x2] (S, I, L, R)).bind fun o => hs_R scr (d + 1) 124 40 [some (.ref t0), some (.int x1), some (.int x2)] (o.1.toList ++ []) o.2)) := Eq.trans (r_zeq d124_32 rfl) (q_ite (Eq.trans (r_inc (loc' := [some (.ref t0), some (.int x1), some (.int (x2 + 1))]) d124_41 kI_1 rfl rfl) (Eq.trans (r_goto d124_44 rfl) (rfl))) (Eq.trans (r_al_n d124_35 rfl) (Eq.trans (r_il_n d124_36 rfl) (r_cvE (as := [.int x2]) (r := []) d124_37 c124_173 ow68 o_t0.2.1 np68.symm rfl (hs_fitE mL68 (Nat.le_of_ble_eq_true rfl))))))
theorem b124_40 {t0 : Nat} {x1 x2 s0 : Int32}  : hs_R scr d 124 40 [some (.ref t0), some (.int x1), some (.int x2)] [.int s0] (S, I, L, R) = some (some (.int s0), (S, I, L, R)) := r_ri d124_40 rt124
theorem b124_53 {t0 : Nat} {x1 x2 s0 : Int32}  : hs_R scr d 124 53 [some (.ref t0), some (.int x1), some (.int x2)] [.int s0] (S, I, L, R) = some (some (.int s0), (S, I, L, R)) := r_ri d124_53 rt124
theorem e125 {t0 : Nat} {x1 : Int32} : hs_C scr d 125 [.ref t0, .int x1] h = hs_R scr d 125 0 [some (.ref t0), some (.int x1)] [] h := by rw [hs_C, mL125]; rfl
theorem b125_0 {t0 : Nat} {x1 : Int32} (o_t0 : ok10 S R t0) : hs_R scr (d + 1) 125 0 [some (.ref t0), some (.int x1)] [] (S, I, L, R) = ((hs_C scr d 95 [.ref t0, .int x1] (S, I, L, R)).bind fun o => hs_R scr (d + 1) 125 5 [some (.ref t0), some (.int x1)] (o.1.toList ++ []) o.2) := Eq.trans (r_al_n d125_0 rfl) (Eq.trans (r_il_n d125_1 rfl) (r_cvE (as := [.int x1]) (r := []) d125_2 c125_232 ow95 o_t0.2.1 np95.symm rfl (hs_fitE mL95 (Nat.le_of_ble_eq_true rfl))))
theorem b125_5 {t0 t0_8 : Nat} {x1 s0 : Int32} (o_t0 : ok10 S R t0) (e_t0_8 : R t0 8 = t0_8) (o_t0_8 : ok4 S R t0_8) : hs_R scr (d + 1) 125 5 [some (.ref t0), some (.int x1)] [.int s0] (S, I, L, R) = (if s0 = 0 then ((hs_C scr d 28 [.ref t0, .int 2] (S, I, L, R)).bind fun o => hs_R scr (d + 1) 125 28 [some (.ref t0), some (.int x1)] (o.1.toList ++ []) o.2) else ((hs_C scr d 126 [.ref t0_8, .int x1] (S, I, L, R)).bind fun o => hs_R scr (d + 1) 125 17 [some (.ref t0), some (.int x1)] (o.1.toList ++ [.ref t0]) o.2)) := Eq.trans (r_zeq d125_5 rfl) (q_ite (Eq.trans (r_al_n d125_23 rfl) (Eq.trans (r_ic d125_24 kI_2) (r_cvE (as := [.int 2]) (r := []) d125_25 c125_120 ow28 o_t0.2.1 np28.symm rfl (hs_fitE mL28 (Nat.le_of_ble_eq_true rfl))))) (Eq.trans (r_al_n d125_8 rfl) (Eq.trans (r_al_n d125_9 rfl) (Eq.trans (r_getRe d125_10 f125_60 o_t0.2.1 e_t0_8 o_t0_8.1) (Eq.trans (r_il_n d125_13 rfl) (r_cvE (as := [.int x1]) (r := [.ref t0]) d125_14 c125_293 ow126 o_t0_8.2.1 np126.symm rfl (hs_fitE mL126 (Nat.le_of_ble_eq_true rfl))))))))
theorem b125_17 {t0 u0 : Nat} {x1 s1 : Int32} (o_u0 : ok10 S R u0) : hs_R scr (d + 1) 125 17 [some (.ref t0), some (.int x1)] [.int s1, .ref u0] (S, I, L, R) = ((hs_C scr d 68 [.ref u0, .int s1] (S, I, L, R)).bind fun o => hs_R scr (d + 1) 125 20 [some (.ref t0), some (.int x1)] (o.1.toList ++ []) o.2) := r_cvE (as := [.int s1]) (r := []) d125_17 c125_173 ow68 o_u0.2.1 np68.symm rfl (hs_fitE mL68 (Nat.le_of_ble_eq_true rfl))
theorem b125_20 {t0 : Nat} {x1 s0 : Int32}  : hs_R scr d 125 20 [some (.ref t0), some (.int x1)] [.int s0] (S, I, L, R) = hs_R scr d 125 28 [some (.ref t0), some (.int x1)] [.int s0] (S, I, L, R) := Eq.trans (r_goto d125_20 rfl) (rfl)
theorem b125_28 {t0 : Nat} {x1 s0 : Int32}  : hs_R scr d 125 28 [some (.ref t0), some (.int x1)] [.int s0] (S, I, L, R) = some (some (.int s0), (S, I, L, R)) := r_ri d125_28 rt125
theorem e127 {t0 : Nat} {x1 : Int32} : hs_C scr d 127 [.ref t0, .int x1] h = hs_R scr d 127 0 [some (.ref t0), some (.int x1)] [] h := by rw [hs_C, mL127]; rfl
theorem b127_0 {t0 t0_8 : Nat} {x1 : Int32} (o_t0 : ok10 S R t0) (e_t0_8 : R t0 8 = t0_8) (o_t0_8 : ok4 S R t0_8) : hs_R scr (d + 1) 127 0 [some (.ref t0), some (.int x1)] [] (S, I, L, R) = (if x1 < 0 then hs_R scr (d + 1) 127 9 [some (.ref t0), some (.int x1)] [] (S, I, L, R) else (if x1 ≤ 4 then ((hs_C scr d 128 [.ref (t0_8 + 5), .int x1] (S, I, L, R)).bind fun o => hs_R scr (d + 1) 127 29 [some (.ref t0), some (.int x1)] (o.1.toList ++ [.ref t0]) o.2) else hs_R scr (d + 1) 127 9 [some (.ref t0), some (.int x1)] [] (S, I, L, R))) := Eq.trans (r_il_n d127_0 rfl) (Eq.trans (r_zlt d127_1 rfl) (q_ite (rfl) (Eq.trans (r_il_n d127_4 rfl) (Eq.trans (r_ic d127_5 kI_4) (Eq.trans (r_cle d127_6 rfl) (q_ite (Eq.trans (r_al_n d127_17 rfl) (Eq.trans (r_al_n d127_18 rfl) (Eq.trans (r_getRe d127_19 f127_60 o_t0.2.1 e_t0_8 o_t0_8.1) (Eq.trans (r_getRe d127_22 f127_164 o_t0_8.2.1 (o_t0_8.2.2.2.2.1) (Nat.le_trans o_t0_8.1 (Nat.le_add_right _ _))) (Eq.trans (r_il_n d127_25 rfl) (r_cvE (as := [.int x1]) (r := [.ref t0]) d127_26 c127_296 ow128 (o_t0_8.2.2.2.2.2.1).2.1 np128.symm rfl (hs_fitE mL128 (Nat.le_of_ble_eq_true rfl)))))))) (rfl)))))))
theorem b127_9 {t0 : Nat} {x1 : Int32} (o_t0 : ok10 S R t0) : hs_R scr (d + 1) 127 9 [some (.ref t0), some (.int x1)] [] (S, I, L, R) = ((hs_C scr d 28 [.ref t0, .int 5] (S, I, L, R)).bind fun o => hs_R scr (d + 1) 127 14 [some (.ref t0), some (.int x1)] (o.1.toList ++ []) o.2) := Eq.trans (r_al_n d127_9 rfl) (Eq.trans (r_ic d127_10 kI_5) (r_cvE (as := [.int 5]) (r := []) d127_11 c127_120 ow28 o_t0.2.1 np28.symm rfl (hs_fitE mL28 (Nat.le_of_ble_eq_true rfl))))
theorem b127_14 {t0 : Nat} {x1 s0 : Int32}  : hs_R scr d 127 14 [some (.ref t0), some (.int x1)] [.int s0] (S, I, L, R) = hs_R scr d 127 32 [some (.ref t0), some (.int x1)] [.int s0] (S, I, L, R) := Eq.trans (r_goto d127_14 rfl) (rfl)
theorem b127_29 {t0 u0 : Nat} {x1 s1 : Int32} (o_u0 : ok10 S R u0) : hs_R scr (d + 1) 127 29 [some (.ref t0), some (.int x1)] [.int s1, .ref u0] (S, I, L, R) = ((hs_C scr d 68 [.ref u0, .int s1] (S, I, L, R)).bind fun o => hs_R scr (d + 1) 127 32 [some (.ref t0), some (.int x1)] (o.1.toList ++ []) o.2) := r_cvE (as := [.int s1]) (r := []) d127_29 c127_173 ow68 o_u0.2.1 np68.symm rfl (hs_fitE mL68 (Nat.le_of_ble_eq_true rfl))
theorem b127_32 {t0 : Nat} {x1 s0 : Int32}  : hs_R scr d 127 32 [some (.ref t0), some (.int x1)] [.int s0] (S, I, L, R) = some (some (.int s0), (S, I, L, R)) := r_ri d127_32 rt127
theorem e130 {t0 : Nat} {x1 : Int32} {x2 : Int32} : hs_C scr d 130 [.ref t0, .int x1, .int x2] h = hs_R scr d 130 0 [some (.ref t0), some (.int x1), some (.int x2), none, none, none] [] h := by rw [hs_C, mL130]; rfl
theorem b130_0 {t0 : Nat} {x1 x2 : Int32} (o_t0 : ok10 S R t0) : hs_R scr (d + 1) 130 0 [some (.ref t0), some (.int x1), some (.int x2), none, none, none] [] (S, I, L, R) = ((hs_C scr d 95 [.ref t0, .int x1] (S, I, L, R)).bind fun o => hs_R scr (d + 1) 130 5 [some (.ref t0), some (.int x1), some (.int x2), none, none, none] (o.1.toList ++ []) o.2) := Eq.trans (r_al_n d130_0 rfl) (Eq.trans (r_il_n d130_1 rfl) (r_cvE (as := [.int x1]) (r := []) d130_2 c130_232 ow95 o_t0.2.1 np95.symm rfl (hs_fitE mL95 (Nat.le_of_ble_eq_true rfl))))
theorem b130_5 {t0 : Nat} {x1 x2 s0 : Int32} (o_t0 : ok10 S R t0) : hs_R scr (d + 1) 130 5 [some (.ref t0), some (.int x1), some (.int x2), none, none, none] [.int s0] (S, I, L, R) = (if s0 = 0 then hs_R scr (d + 1) 130 16 [some (.ref t0), some (.int x1), some (.int x2), none, none, none] [] (S, I, L, R) else ((hs_C scr d 95 [.ref t0, .int x2] (S, I, L, R)).bind fun o => hs_R scr (d + 1) 130 13 [some (.ref t0), some (.int x1), some (.int x2), none, none, none] (o.1.toList ++ []) o.2)) := Eq.trans (r_zeq d130_5 rfl) (q_ite (rfl) (Eq.trans (r_al_n d130_8 rfl) (Eq.trans (r_il_n d130_9 rfl) (r_cvE (as := [.int x2]) (r := []) d130_10 c130_232 ow95 o_t0.2.1 np95.symm rfl (hs_fitE mL95 (Nat.le_of_ble_eq_true rfl))))))
theorem b130_13 {t0 : Nat} {x1 x2 s0 : Int32}  : hs_R scr d 130 13 [some (.ref t0), some (.int x1), some (.int x2), none, none, none] [.int s0] (S, I, L, R) = (if s0 = 0 then hs_R scr d 130 16 [some (.ref t0), some (.int x1), some (.int x2), none, none, none] [] (S, I, L, R) else hs_R scr d 130 24 [some (.ref t0), some (.int x1), some (.int x2), some (.int 0), none, none] [] (S, I, L, R)) := Eq.trans (r_zne d130_13 rfl) (q_ite (rfl) (Eq.trans (r_ic d130_22 kI_0) (Eq.trans (r_is_n (loc' := [some (.ref t0), some (.int x1), some (.int x2), some (.int 0), none, none]) d130_23 rfl) (rfl))))
theorem b130_16 {t0 : Nat} {x1 x2 : Int32} (o_t0 : ok10 S R t0) : hs_R scr (d + 1) 130 16 [some (.ref t0), some (.int x1), some (.int x2), none, none, none] [] (S, I, L, R) = ((hs_C scr d 28 [.ref t0, .int 2] (S, I, L, R)).bind fun o => hs_R scr (d + 1) 130 21 [some (.ref t0), some (.int x1), some (.int x2), none, none, none] (o.1.toList ++ []) o.2) := Eq.trans (r_al_n d130_16 rfl) (Eq.trans (r_ic d130_17 kI_2) (r_cvE (as := [.int 2]) (r := []) d130_18 c130_120 ow28 o_t0.2.1 np28.symm rfl (hs_fitE mL28 (Nat.le_of_ble_eq_true rfl))))
theorem b130_21 {t0 : Nat} {x1 x2 s0 : Int32}  : hs_R scr d 130 21 [some (.ref t0), some (.int x1), some (.int x2), none, none, none] [.int s0] (S, I, L, R) = some (some (.int s0), (S, I, L, R)) := r_ri d130_21 rt130
theorem b130_24 {t0 t0_8 : Nat} {x1 x2 x3 : Int32} {w4 w5 : Option Value} (o_t0 : ok10 S R t0) (e_t0_8 : R t0 8 = t0_8) (o_t0_8 : ok4 S R t0_8) : hs_R scr (d + 1) 130 24 [some (.ref t0), some (.int x1), some (.int x2), some (.int x3), w4, w5] [] (S, I, L, R) = (if (I (t0_8 + 5) 4) ≤ x3 then ((hs_C scr d 68 [.ref t0, .int 1] (S, I, L, R)).bind fun o => hs_R scr (d + 1) 130 96 [some (.ref t0), some (.int x1), some (.int x2), some (.int x3), w4, w5] (o.1.toList ++ []) o.2) else ((hs_C scr d 96 [.ref t0_8, .int x1, .int x3] (S, I, L, R)).bind fun o => hs_R scr (d + 1) 130 47 [some (.ref t0), some (.int x1), some (.int x2), some (.int x3), w4, w5] (o.1.toList ++ []) o.2)) := Eq.trans (r_il_n d130_24 rfl) (Eq.trans (r_al_n d130_25 rfl) (Eq.trans (r_getRe d130_26 f130_60 o_t0.2.1 e_t0_8 o_t0_8.1) (Eq.trans (r_getRe d130_29 f130_164 o_t0_8.2.1 (o_t0_8.2.2.2.2.1) (Nat.le_trans o_t0_8.1 (Nat.le_add_right _ _))) (Eq.trans (r_getI d130_32 f130_168 (o_t0_8.2.2.2.2.2.1).2.1) (Eq.trans (r_cge d130_35 rfl) (q_ite (Eq.trans (r_al_n d130_91 rfl) (Eq.trans (r_ic d130_92 kI_1) (r_cvE (as := [.int 1]) (r := []) d130_93 c130_173 ow68 o_t0.2.1 np68.symm rfl (hs_fitE mL68 (Nat.le_of_ble_eq_true rfl))))) (Eq.trans (r_al_n d130_38 rfl) (Eq.trans (r_getRe d130_39 f130_60 o_t0.2.1 e_t0_8 o_t0_8.1) (Eq.trans (r_il_n d130_42 rfl) (Eq.trans (r_il_n d130_43 rfl) (r_cvE (as := [.int x1, .int x3]) (r := []) d130_44 c130_235 ow96 o_t0_8.2.1 np96.symm rfl (hs_fitE mL96 (Nat.le_of_ble_eq_true rfl)))))))))))))
theorem b130_47 {t0 t0_8 : Nat} {x1 x2 x3 s0 : Int32} {w4 w5 : Option Value} (o_t0 : ok10 S R t0) (e_t0_8 : R t0 8 = t0_8) (o_t0_8 : ok4 S R t0_8) : hs_R scr (d + 1) 130 47 [some (.ref t0), some (.int x1), some (.int x2), some (.int x3), w4, w5] [.int s0] (S, I, L, R) = ((hs_C scr d 96 [.ref t0_8, .int x2, .int x3] (S, I, L, R)).bind fun o => hs_R scr (d + 1) 130 58 [some (.ref t0), some (.int x1), some (.int x2), some (.int x3), some (.int s0), w5] (o.1.toList ++ []) o.2) := Eq.trans (r_is (loc' := [some (.ref t0), some (.int x1), some (.int x2), some (.int x3), some (.int s0), w5]) d130_47 rfl) (Eq.trans (r_al_n d130_49 rfl) (Eq.trans (r_getRe d130_50 f130_60 o_t0.2.1 e_t0_8 o_t0_8.1) (Eq.trans (r_il_n d130_53 rfl) (Eq.trans (r_il_n d130_54 rfl) (r_cvE (as := [.int x2, .int x3]) (r := []) d130_55 c130_235 ow96 o_t0_8.2.1 np96.symm rfl (hs_fitE mL96 (Nat.le_of_ble_eq_true rfl)))))))
theorem b130_58 {t0 : Nat} {x1 x2 x3 x4 s0 : Int32} {w5 : Option Value} (o_t0 : ok10 S R t0) : hs_R scr (d + 1) 130 58 [some (.ref t0), some (.int x1), some (.int x2), some (.int x3), some (.int x4), w5] [.int s0] (S, I, L, R) = (if x4 = s0 then hs_R scr (d + 1) 130 85 [some (.ref t0), some (.int x1), some (.int x2), some (.int x3), some (.int x4), some (.int s0)] [] (S, I, L, R) else (if x4 = 3 then hs_R scr (d + 1) 130 85 [some (.ref t0), some (.int x1), some (.int x2), some (.int x3), some (.int x4), some (.int s0)] [] (S, I, L, R) else (if s0 = 3 then hs_R scr (d + 1) 130 85 [some (.ref t0), some (.int x1), some (.int x2), some (.int x3), some (.int x4), some (.int s0)] [] (S, I, L, R) else ((hs_C scr d 68 [.ref t0, .int 0] (S, I, L, R)).bind fun o => hs_R scr (d + 1) 130 84 [some (.ref t0), some (.int x1), some (.int x2), some (.int x3), some (.int x4), some (.int s0)] (o.1.toList ++ []) o.2)))) := Eq.trans (r_is (loc' := [some (.ref t0), some (.int x1), some (.int x2), some (.int x3), some (.int x4), some (.int s0)]) d130_58 rfl) (Eq.trans (r_il d130_60 rfl) (Eq.trans (r_il d130_62 rfl) (Eq.trans (r_ceq d130_64 rfl) (q_ite (rfl) (Eq.trans (r_il d130_67 rfl) (Eq.trans (r_ic d130_69 kI_3) (Eq.trans (r_ceq d130_70 rfl) (q_ite (rfl) (Eq.trans (r_il d130_73 rfl) (Eq.trans (r_ic d130_75 kI_3) (Eq.trans (r_ceq d130_76 rfl) (q_ite (rfl) (Eq.trans (r_al_n d130_79 rfl) (Eq.trans (r_ic d130_80 kI_0) (r_cvE (as := [.int 0]) (r := []) d130_81 c130_173 ow68 o_t0.2.1 np68.symm rfl (hs_fitE mL68 (Nat.le_of_ble_eq_true rfl)))))))))))))))))
theorem b130_84 {t0 : Nat} {x1 x2 x3 x4 x5 s0 : Int32}  : hs_R scr d 130 84 [some (.ref t0), some (.int x1), some (.int x2), some (.int x3), some (.int x4), some (.int x5)] [.int s0] (S, I, L, R) = some (some (.int s0), (S, I, L, R)) := r_ri d130_84 rt130
theorem b130_85 {t0 : Nat} {x1 x2 x3 x4 x5 : Int32}  : hs_R scr d 130 85 [some (.ref t0), some (.int x1), some (.int x2), some (.int x3), some (.int x4), some (.int x5)] [] (S, I, L, R) = hs_R scr d 130 24 [some (.ref t0), some (.int x1), some (.int x2), some (.int (x3 + 1)), some (.int x4), some (.int x5)] [] (S, I, L, R) := Eq.trans (r_inc (loc' := [some (.ref t0), some (.int x1), some (.int x2), some (.int (x3 + 1)), some (.int x4), some (.int x5)]) d130_85 kI_1 rfl rfl) (Eq.trans (r_goto d130_88 rfl) (rfl))
theorem b130_96 {t0 : Nat} {x1 x2 x3 s0 : Int32} {w4 w5 : Option Value}  : hs_R scr d 130 96 [some (.ref t0), some (.int x1), some (.int x2), some (.int x3), w4, w5] [.int s0] (S, I, L, R) = some (some (.int s0), (S, I, L, R)) := r_ri d130_96 rt130
theorem e131 {t0 : Nat} {x1 : Int32} {x2 : Int32} : hs_C scr d 131 [.ref t0, .int x1, .int x2] h = hs_R scr d 131 0 [some (.ref t0), some (.int x1), some (.int x2), none] [] h := by rw [hs_C, mL131]; rfl
theorem b131_0 {t0 : Nat} {x1 x2 : Int32} (o_t0 : ok10 S R t0) : hs_R scr (d + 1) 131 0 [some (.ref t0), some (.int x1), some (.int x2), none] [] (S, I, L, R) = ((hs_C scr d 107 [.ref t0, .int x1, .int x2, .int 0, .int 200] (S, I, L, R)).bind fun o => hs_R scr (d + 1) 131 10 [some (.ref t0), some (.int x1), some (.int x2), none] (o.1.toList ++ []) o.2) := Eq.trans (r_al_n d131_0 rfl) (Eq.trans (r_il_n d131_1 rfl) (Eq.trans (r_il_n d131_2 rfl) (Eq.trans (r_ic d131_3 kI_0) (Eq.trans (r_sp d131_4 kS_200) (r_cvE (as := [.int x1, .int x2, .int 0, .int 200]) (r := []) d131_7 c131_258 ow107 o_t0.2.1 np107.symm rfl (hs_fitE mL107 (Nat.le_of_ble_eq_true rfl)))))))
theorem b131_10 {t0 t0_8 : Nat} {x1 x2 s0 : Int32} (o_t0 : ok10 S R t0) (e_t0_8 : R t0 8 = t0_8) (o_t0_8 : ok4 S R t0_8) : hs_R scr (d + 1) 131 10 [some (.ref t0), some (.int x1), some (.int x2), none] [.int s0] (S, I, L, R) = (if s0 = 0 then ((hs_C scr d 132 [.ref t0_8, .int x1, .int x2] (S, I, L, R)).bind fun o => hs_R scr (d + 1) 131 33 [some (.ref t0), some (.int x1), some (.int x2), some (.int s0)] (o.1.toList ++ [.ref t0]) o.2) else ((hs_C scr d 28 [.ref t0, .int s0] (S, I, L, R)).bind fun o => hs_R scr (d + 1) 131 20 [some (.ref t0), some (.int x1), some (.int x2), some (.int s0)] (o.1.toList ++ []) o.2)) := Eq.trans (r_is_n (loc' := [some (.ref t0), some (.int x1), some (.int x2), some (.int s0)]) d131_10 rfl) (Eq.trans (r_il_n d131_11 rfl) (Eq.trans (r_zeq d131_12 rfl) (q_ite (Eq.trans (r_al_n d131_23 rfl) (Eq.trans (r_al_n d131_24 rfl) (Eq.trans (r_getRe d131_25 f131_60 o_t0.2.1 e_t0_8 o_t0_8.1) (Eq.trans (r_il_n d131_28 rfl) (Eq.trans (r_il_n d131_29 rfl) (r_cvE (as := [.int x1, .int x2]) (r := [.ref t0]) d131_30 c131_299 ow132 o_t0_8.2.1 np132.symm rfl (hs_fitE mL132 (Nat.le_of_ble_eq_true rfl)))))))) (Eq.trans (r_al_n d131_15 rfl) (Eq.trans (r_il_n d131_16 rfl) (r_cvE (as := [.int s0]) (r := []) d131_17 c131_120 ow28 o_t0.2.1 np28.symm rfl (hs_fitE mL28 (Nat.le_of_ble_eq_true rfl))))))))
theorem b131_20 {t0 : Nat} {x1 x2 x3 s0 : Int32}  : hs_R scr d 131 20 [some (.ref t0), some (.int x1), some (.int x2), some (.int x3)] [.int s0] (S, I, L, R) = hs_R scr d 131 36 [some (.ref t0), some (.int x1), some (.int x2), some (.int x3)] [.int s0] (S, I, L, R) := Eq.trans (r_goto d131_20 rfl) (rfl)
theorem b131_33 {t0 u0 : Nat} {x1 x2 x3 s1 : Int32} (o_u0 : ok10 S R u0) : hs_R scr (d + 1) 131 33 [some (.ref t0), some (.int x1), some (.int x2), some (.int x3)] [.int s1, .ref u0] (S, I, L, R) = ((hs_C scr d 68 [.ref u0, .int s1] (S, I, L, R)).bind fun o => hs_R scr (d + 1) 131 36 [some (.ref t0), some (.int x1), some (.int x2), some (.int x3)] (o.1.toList ++ []) o.2) := r_cvE (as := [.int s1]) (r := []) d131_33 c131_173 ow68 o_u0.2.1 np68.symm rfl (hs_fitE mL68 (Nat.le_of_ble_eq_true rfl))
theorem b131_36 {t0 : Nat} {x1 x2 x3 s0 : Int32}  : hs_R scr d 131 36 [some (.ref t0), some (.int x1), some (.int x2), some (.int x3)] [.int s0] (S, I, L, R) = some (some (.int s0), (S, I, L, R)) := r_ri d131_36 rt131
theorem e134 {t0 : Nat} {x1 : Int32} {x2 : Int32} : hs_C scr d 134 [.ref t0, .int x1, .int x2] h = hs_R scr d 134 0 [some (.ref t0), some (.int x1), some (.int x2), none] [] h := by rw [hs_C, mL134]; rfl
theorem b134_0 {t0 : Nat} {x1 x2 : Int32} (o_t0 : ok10 S R t0) : hs_R scr (d + 1) 134 0 [some (.ref t0), some (.int x1), some (.int x2), none] [] (S, I, L, R) = ((hs_C scr d 107 [.ref t0, .int x1, .int x2, .int 0, .int 200] (S, I, L, R)).bind fun o => hs_R scr (d + 1) 134 10 [some (.ref t0), some (.int x1), some (.int x2), none] (o.1.toList ++ []) o.2) := Eq.trans (r_al_n d134_0 rfl) (Eq.trans (r_il_n d134_1 rfl) (Eq.trans (r_il_n d134_2 rfl) (Eq.trans (r_ic d134_3 kI_0) (Eq.trans (r_sp d134_4 kS_200) (r_cvE (as := [.int x1, .int x2, .int 0, .int 200]) (r := []) d134_7 c134_258 ow107 o_t0.2.1 np107.symm rfl (hs_fitE mL107 (Nat.le_of_ble_eq_true rfl)))))))
theorem b134_10 {t0 t0_8 : Nat} {x1 x2 s0 : Int32} (o_t0 : ok10 S R t0) (e_t0_8 : R t0 8 = t0_8) (o_t0_8 : ok4 S R t0_8) : hs_R scr (d + 1) 134 10 [some (.ref t0), some (.int x1), some (.int x2), none] [.int s0] (S, I, L, R) = (if s0 = 0 then ((hs_C scr d 103 [.ref (t0_8 + 5), .int x1, .int x2, .int (I t0_8 16)] (S, I, L, R)).bind fun o => hs_R scr (d + 1) 134 43 [some (.ref t0), some (.int x1), some (.int x2), some (.int s0)] (o.1.toList ++ [.ref t0]) o.2) else ((hs_C scr d 28 [.ref t0, .int s0] (S, I, L, R)).bind fun o => hs_R scr (d + 1) 134 20 [some (.ref t0), some (.int x1), some (.int x2), some (.int s0)] (o.1.toList ++ []) o.2)) := Eq.trans (r_is_n (loc' := [some (.ref t0), some (.int x1), some (.int x2), some (.int s0)]) d134_10 rfl) (Eq.trans (r_il_n d134_11 rfl) (Eq.trans (r_zeq d134_12 rfl) (q_ite (Eq.trans (r_al_n d134_23 rfl) (Eq.trans (r_al_n d134_24 rfl) (Eq.trans (r_getRe d134_25 f134_60 o_t0.2.1 e_t0_8 o_t0_8.1) (Eq.trans (r_getRe d134_28 f134_164 o_t0_8.2.1 (o_t0_8.2.2.2.2.1) (Nat.le_trans o_t0_8.1 (Nat.le_add_right _ _))) (Eq.trans (r_il_n d134_31 rfl) (Eq.trans (r_il_n d134_32 rfl) (Eq.trans (r_al_n d134_33 rfl) (Eq.trans (r_getRe d134_34 f134_60 o_t0.2.1 e_t0_8 o_t0_8.1) (Eq.trans (r_getZ d134_37 f134_302 o_t0_8.2.1) (r_cvE (as := [.int x1, .int x2, .int (I t0_8 16)]) (r := [.ref t0]) d134_40 c134_306 ow103 (o_t0_8.2.2.2.2.2.1).2.1 np103.symm rfl (hs_fitE mL103 (Nat.le_of_ble_eq_true rfl)))))))))))) (Eq.trans (r_al_n d134_15 rfl) (Eq.trans (r_il_n d134_16 rfl) (r_cvE (as := [.int s0]) (r := []) d134_17 c134_120 ow28 o_t0.2.1 np28.symm rfl (hs_fitE mL28 (Nat.le_of_ble_eq_true rfl))))))))
theorem b134_20 {t0 : Nat} {x1 x2 x3 s0 : Int32}  : hs_R scr d 134 20 [some (.ref t0), some (.int x1), some (.int x2), some (.int x3)] [.int s0] (S, I, L, R) = hs_R scr d 134 46 [some (.ref t0), some (.int x1), some (.int x2), some (.int x3)] [.int s0] (S, I, L, R) := Eq.trans (r_goto d134_20 rfl) (rfl)
theorem b134_43 {t0 u0 : Nat} {x1 x2 x3 s1 : Int32} (o_u0 : ok10 S R u0) : hs_R scr (d + 1) 134 43 [some (.ref t0), some (.int x1), some (.int x2), some (.int x3)] [.int s1, .ref u0] (S, I, L, R) = ((hs_C scr d 68 [.ref u0, .int s1] (S, I, L, R)).bind fun o => hs_R scr (d + 1) 134 46 [some (.ref t0), some (.int x1), some (.int x2), some (.int x3)] (o.1.toList ++ []) o.2) := r_cvE (as := [.int s1]) (r := []) d134_43 c134_173 ow68 o_u0.2.1 np68.symm rfl (hs_fitE mL68 (Nat.le_of_ble_eq_true rfl))
theorem b134_46 {t0 : Nat} {x1 x2 x3 s0 : Int32}  : hs_R scr d 134 46 [some (.ref t0), some (.int x1), some (.int x2), some (.int x3)] [.int s0] (S, I, L, R) = some (some (.int s0), (S, I, L, R)) := r_ri d134_46 rt134
theorem e135 {t0 : Nat} {x1 : Int32} {x2 : Int32} : hs_C scr d 135 [.ref t0, .int x1, .int x2] h = hs_R scr d 135 0 [some (.ref t0), some (.int x1), some (.int x2), none, none] [] h := by rw [hs_C, mL135]; rfl
theorem b135_0 {t0 : Nat} {x1 x2 : Int32} (o_t0 : ok10 S R t0) : hs_R scr (d + 1) 135 0 [some (.ref t0), some (.int x1), some (.int x2), none, none] [] (S, I, L, R) = ((hs_C scr d 107 [.ref t0, .int x1, .int x2, .int 0, .int 99] (S, I, L, R)).bind fun o => hs_R scr (d + 1) 135 9 [some (.ref t0), some (.int x1), some (.int x2), none, none] (o.1.toList ++ []) o.2) := Eq.trans (r_al_n d135_0 rfl) (Eq.trans (r_il_n d135_1 rfl) (Eq.trans (r_il_n d135_2 rfl) (Eq.trans (r_ic d135_3 kI_0) (Eq.trans (r_bp d135_4 kB_99) (r_cvE (as := [.int x1, .int x2, .int 0, .int 99]) (r := []) d135_6 c135_258 ow107 o_t0.2.1 np107.symm rfl (hs_fitE mL107 (Nat.le_of_ble_eq_true rfl)))))))
theorem b135_9 {t0 : Nat} {x1 x2 s0 : Int32} (o_t0 : ok10 S R t0) : hs_R scr (d + 1) 135 9 [some (.ref t0), some (.int x1), some (.int x2), none, none] [.int s0] (S, I, L, R) = (if s0 = 0 then hs_R scr (d + 1) 135 23 [some (.ref t0), some (.int x1), some (.int x2), some (.int s0), some (.int 0)] [] (S, I, L, R) else ((hs_C scr d 28 [.ref t0, .int s0] (S, I, L, R)).bind fun o => hs_R scr (d + 1) 135 19 [some (.ref t0), some (.int x1), some (.int x2), some (.int s0), none] (o.1.toList ++ []) o.2)) := Eq.trans (r_is_n (loc' := [some (.ref t0), some (.int x1), some (.int x2), some (.int s0), none]) d135_9 rfl) (Eq.trans (r_il_n d135_10 rfl) (Eq.trans (r_zeq d135_11 rfl) (q_ite (Eq.trans (r_ic d135_20 kI_0) (Eq.trans (r_is (loc' := [some (.ref t0), some (.int x1), some (.int x2), some (.int s0), some (.int 0)]) d135_21 rfl) (rfl))) (Eq.trans (r_al_n d135_14 rfl) (Eq.trans (r_il_n d135_15 rfl) (r_cvE (as := [.int s0]) (r := []) d135_16 c135_120 ow28 o_t0.2.1 np28.symm rfl (hs_fitE mL28 (Nat.le_of_ble_eq_true rfl))))))))
theorem b135_19 {t0 : Nat} {x1 x2 x3 s0 : Int32}  : hs_R scr d 135 19 [some (.ref t0), some (.int x1), some (.int x2), some (.int x3), none] [.int s0] (S, I, L, R) = some (some (.int s0), (S, I, L, R)) := r_ri d135_19 rt135
theorem b135_23 {t0 t0_8 : Nat} {x1 x2 x3 x4 : Int32} (o_t0 : ok10 S R t0) (e_t0_8 : R t0 8 = t0_8) (o_t0_8 : ok4 S R t0_8) : hs_R scr (d + 1) 135 23 [some (.ref t0), some (.int x1), some (.int x2), some (.int x3), some (.int x4)] [] (S, I, L, R) = (if (200 : Int32) < x4 then ((hs_C scr d 28 [.ref t0, .int 8] (S, I, L, R)).bind fun o => hs_R scr (d + 1) 135 64 [some (.ref t0), some (.int x1), some (.int x2), some (.int x3), some (.int x4)] (o.1.toList ++ []) o.2) else ((hs_C scr d 132 [.ref t0_8, .int x1, .int x4] (S, I, L, R)).bind fun o => hs_R scr (d + 1) 135 41 [some (.ref t0), some (.int x1), some (.int x2), some (.int x3), some (.int x4)] (o.1.toList ++ []) o.2)) := Eq.trans (r_il d135_23 rfl) (Eq.trans (r_sp d135_25 kS_200) (Eq.trans (r_cgt d135_28 rfl) (q_ite (Eq.trans (r_al_n d135_58 rfl) (Eq.trans (r_bp d135_59 kB_8) (r_cvE (as := [.int 8]) (r := []) d135_61 c135_120 ow28 o_t0.2.1 np28.symm rfl (hs_fitE mL28 (Nat.le_of_ble_eq_true rfl))))) (Eq.trans (r_al_n d135_31 rfl) (Eq.trans (r_getRe d135_32 f135_60 o_t0.2.1 e_t0_8 o_t0_8.1) (Eq.trans (r_il_n d135_35 rfl) (Eq.trans (r_il d135_36 rfl) (r_cvE (as := [.int x1, .int x4]) (r := []) d135_38 c135_299 ow132 o_t0_8.2.1 np132.symm rfl (hs_fitE mL132 (Nat.le_of_ble_eq_true rfl))))))))))
theorem b135_41 {t0 : Nat} {x1 x2 x3 x4 s0 : Int32} (o_t0 : ok10 S R t0) : hs_R scr (d + 1) 135 41 [some (.ref t0), some (.int x1), some (.int x2), some (.int x3), some (.int x4)] [.int s0] (S, I, L, R) = (if s0 < x2 then hs_R scr (d + 1) 135 23 [some (.ref t0), some (.int x1), some (.int x2), some (.int x3), some (.int (x4 + 1))] [] (S, I, L, R) else ((hs_C scr d 68 [.ref t0, .int x4] (S, I, L, R)).bind fun o => hs_R scr (d + 1) 135 51 [some (.ref t0), some (.int x1), some (.int x2), some (.int x3), some (.int x4)] (o.1.toList ++ []) o.2)) := Eq.trans (r_il_n d135_41 rfl) (Eq.trans (r_clt d135_42 rfl) (q_ite (Eq.trans (r_inc (loc' := [some (.ref t0), some (.int x1), some (.int x2), some (.int x3), some (.int (x4 + 1))]) d135_52 kI_1 rfl rfl) (Eq.trans (r_goto d135_55 rfl) (rfl))) (Eq.trans (r_al_n d135_45 rfl) (Eq.trans (r_il d135_46 rfl) (r_cvE (as := [.int x4]) (r := []) d135_48 c135_173 ow68 o_t0.2.1 np68.symm rfl (hs_fitE mL68 (Nat.le_of_ble_eq_true rfl)))))))
theorem b135_51 {t0 : Nat} {x1 x2 x3 x4 s0 : Int32}  : hs_R scr d 135 51 [some (.ref t0), some (.int x1), some (.int x2), some (.int x3), some (.int x4)] [.int s0] (S, I, L, R) = some (some (.int s0), (S, I, L, R)) := r_ri d135_51 rt135
theorem b135_64 {t0 : Nat} {x1 x2 x3 x4 s0 : Int32}  : hs_R scr d 135 64 [some (.ref t0), some (.int x1), some (.int x2), some (.int x3), some (.int x4)] [.int s0] (S, I, L, R) = some (some (.int s0), (S, I, L, R)) := r_ri d135_64 rt135
theorem e136 {t0 : Nat} : hs_C scr d 136 [.ref t0] h = hs_R scr d 136 0 [some (.ref t0), none] [] h := by rw [hs_C, mL136]; rfl
theorem b136_0 {t0 : Nat}  : hs_R scr d 136 0 [some (.ref t0), none] [] (S, I, L, R) = hs_R scr d 136 2 [some (.ref t0), some (.int 0)] [] (S, I, L, R) := Eq.trans (r_ic d136_0 kI_0) (Eq.trans (r_is_n (loc' := [some (.ref t0), some (.int 0)]) d136_1 rfl) (rfl))
theorem b136_2 {t0 t0_8 : Nat} {x1 : Int32} (o_t0 : ok10 S R t0) (e_t0_8 : R t0 8 = t0_8) (o_t0_8 : ok4 S R t0_8) : hs_R scr (d + 1) 136 2 [some (.ref t0), some (.int x1)] [] (S, I, L, R) = (if (200 : Int32) < x1 then ((hs_C scr d 28 [.ref t0, .int 8] (S, I, L, R)).bind fun o => hs_R scr (d + 1) 136 48 [some (.ref t0), some (.int x1)] (o.1.toList ++ []) o.2) else ((hs_C scr d 137 [.ref (t0_8 + 5), .int x1, .int (I t0_8 16)] (S, I, L, R)).bind fun o => hs_R scr (d + 1) 136 27 [some (.ref t0), some (.int x1)] (o.1.toList ++ []) o.2)) := Eq.trans (r_il_n d136_2 rfl) (Eq.trans (r_sp d136_3 kS_200) (Eq.trans (r_cgt d136_6 rfl) (q_ite (Eq.trans (r_al_n d136_42 rfl) (Eq.trans (r_bp d136_43 kB_8) (r_cvE (as := [.int 8]) (r := []) d136_45 c136_120 ow28 o_t0.2.1 np28.symm rfl (hs_fitE mL28 (Nat.le_of_ble_eq_true rfl))))) (Eq.trans (r_al_n d136_9 rfl) (Eq.trans (r_getRe d136_10 f136_60 o_t0.2.1 e_t0_8 o_t0_8.1) (Eq.trans (r_getRe d136_13 f136_164 o_t0_8.2.1 (o_t0_8.2.2.2.2.1) (Nat.le_trans o_t0_8.1 (Nat.le_add_right _ _))) (Eq.trans (r_il_n d136_16 rfl) (Eq.trans (r_al_n d136_17 rfl) (Eq.trans (r_getRe d136_18 f136_60 o_t0.2.1 e_t0_8 o_t0_8.1) (Eq.trans (r_getZ d136_21 f136_302 o_t0_8.2.1) (r_cvE (as := [.int x1, .int (I t0_8 16)]) (r := []) d136_24 c136_310 ow137 (o_t0_8.2.2.2.2.2.1).2.1 np137.symm rfl (hs_fitE mL137 (Nat.le_of_ble_eq_true rfl)))))))))))))
theorem b136_27 {t0 : Nat} {x1 s0 : Int32} (o_t0 : ok10 S R t0) : hs_R scr (d + 1) 136 27 [some (.ref t0), some (.int x1)] [.int s0] (S, I, L, R) = (if s0 = 0 then hs_R scr (d + 1) 136 2 [some (.ref t0), some (.int (x1 + 1))] [] (S, I, L, R) else ((hs_C scr d 68 [.ref t0, .int x1] (S, I, L, R)).bind fun o => hs_R scr (d + 1) 136 35 [some (.ref t0), some (.int x1)] (o.1.toList ++ []) o.2)) := Eq.trans (r_zeq d136_27 rfl) (q_ite (Eq.trans (r_inc (loc' := [some (.ref t0), some (.int (x1 + 1))]) d136_36 kI_1 rfl rfl) (Eq.trans (r_goto d136_39 rfl) (rfl))) (Eq.trans (r_al_n d136_30 rfl) (Eq.trans (r_il_n d136_31 rfl) (r_cvE (as := [.int x1]) (r := []) d136_32 c136_173 ow68 o_t0.2.1 np68.symm rfl (hs_fitE mL68 (Nat.le_of_ble_eq_true rfl))))))
theorem b136_35 {t0 : Nat} {x1 s0 : Int32}  : hs_R scr d 136 35 [some (.ref t0), some (.int x1)] [.int s0] (S, I, L, R) = some (some (.int s0), (S, I, L, R)) := r_ri d136_35 rt136
theorem b136_48 {t0 : Nat} {x1 s0 : Int32}  : hs_R scr d 136 48 [some (.ref t0), some (.int x1)] [.int s0] (S, I, L, R) = some (some (.int s0), (S, I, L, R)) := r_ri d136_48 rt136
theorem e138 {t0 : Nat} {x1 : Int32} : hs_C scr d 138 [.ref t0, .int x1] h = hs_R scr d 138 0 [some (.ref t0), some (.int x1)] [] h := by rw [hs_C, mL138]; rfl
theorem b138_0 {t0 t0_8 : Nat} {x1 : Int32} (o_t0 : ok10 S R t0) (e_t0_8 : R t0 8 = t0_8) (o_t0_8 : ok4 S R t0_8) : hs_R scr (d + 1) 138 0 [some (.ref t0), some (.int x1)] [] (S, I, L, R) = (if x1 < 0 then hs_R scr (d + 1) 138 11 [some (.ref t0), some (.int x1)] [] (S, I, L, R) else (if x1 ≤ 999 then ((hs_C scr d 84 [.ref t0_8, .int x1] (S, I, L, R)).bind fun o => hs_R scr (d + 1) 138 26 [some (.ref t0), some (.int x1)] (o.1.toList ++ [.ref t0]) o.2) else hs_R scr (d + 1) 138 11 [some (.ref t0), some (.int x1)] [] (S, I, L, R))) := Eq.trans (r_il_n d138_0 rfl) (Eq.trans (r_zlt d138_1 rfl) (q_ite (rfl) (Eq.trans (r_il_n d138_4 rfl) (Eq.trans (r_sp d138_5 kS_999) (Eq.trans (r_cle d138_8 rfl) (q_ite (Eq.trans (r_al_n d138_17 rfl) (Eq.trans (r_al_n d138_18 rfl) (Eq.trans (r_getRe d138_19 f138_60 o_t0.2.1 e_t0_8 o_t0_8.1) (Eq.trans (r_il_n d138_22 rfl) (r_cvE (as := [.int x1]) (r := [.ref t0]) d138_23 c138_314 ow84 o_t0_8.2.1 np84.symm rfl (hs_fitE mL84 (Nat.le_of_ble_eq_true rfl))))))) (rfl)))))))
theorem b138_11 {t0 : Nat} {x1 : Int32} (o_t0 : ok10 S R t0) : hs_R scr (d + 1) 138 11 [some (.ref t0), some (.int x1)] [] (S, I, L, R) = ((hs_C scr d 28 [.ref t0, .int 5] (S, I, L, R)).bind fun o => hs_R scr (d + 1) 138 16 [some (.ref t0), some (.int x1)] (o.1.toList ++ []) o.2) := Eq.trans (r_al_n d138_11 rfl) (Eq.trans (r_ic d138_12 kI_5) (r_cvE (as := [.int 5]) (r := []) d138_13 c138_120 ow28 o_t0.2.1 np28.symm rfl (hs_fitE mL28 (Nat.le_of_ble_eq_true rfl))))
theorem b138_16 {t0 : Nat} {x1 s0 : Int32}  : hs_R scr d 138 16 [some (.ref t0), some (.int x1)] [.int s0] (S, I, L, R) = some (some (.int s0), (S, I, L, R)) := r_ri d138_16 rt138
theorem b138_26 {t0 u0 : Nat} {x1 s1 : Int32}  : hs_R scr (d + 1) 138 26 [some (.ref t0), some (.int x1)] [.int s1, .ref u0] (S, I, L, R) = ((hs_C scr d 139 [.int s1] (S, I, L, R)).bind fun o => hs_R scr (d + 1) 138 29 [some (.ref t0), some (.int x1)] (o.1.toList ++ [.ref u0]) o.2) := r_cs (as := [.int s1]) (r := [.ref u0]) d138_26 c138_317 np139.symm rfl (hs_fitE mL139 (Nat.le_of_ble_eq_true rfl))
theorem b138_29 {t0 u0 : Nat} {x1 s1 : Int32} (o_u0 : ok10 S R u0) : hs_R scr (d + 1) 138 29 [some (.ref t0), some (.int x1)] [.int s1, .ref u0] (S, I, L, R) = ((hs_C scr d 68 [.ref u0, .int s1] (S, I, L, R)).bind fun o => hs_R scr (d + 1) 138 32 [some (.ref t0), some (.int x1)] (o.1.toList ++ []) o.2) := r_cvE (as := [.int s1]) (r := []) d138_29 c138_173 ow68 o_u0.2.1 np68.symm rfl (hs_fitE mL68 (Nat.le_of_ble_eq_true rfl))
theorem b138_32 {t0 : Nat} {x1 s0 : Int32}  : hs_R scr d 138 32 [some (.ref t0), some (.int x1)] [.int s0] (S, I, L, R) = some (some (.int s0), (S, I, L, R)) := r_ri d138_32 rt138
theorem e140 {t0 : Nat} {x1 : Int32} {x2 : Int32} : hs_C scr d 140 [.ref t0, .int x1, .int x2] h = hs_R scr d 140 0 [some (.ref t0), some (.int x1), some (.int x2), none] [] h := by rw [hs_C, mL140]; rfl
theorem b140_0 {t0 : Nat} {x1 x2 : Int32} (o_t0 : ok10 S R t0) : hs_R scr (d + 1) 140 0 [some (.ref t0), some (.int x1), some (.int x2), none] [] (S, I, L, R) = ((hs_C scr d 109 [.ref t0, .int x1, .int x2] (S, I, L, R)).bind fun o => hs_R scr (d + 1) 140 6 [some (.ref t0), some (.int x1), some (.int x2), none] (o.1.toList ++ []) o.2) := Eq.trans (r_al_n d140_0 rfl) (Eq.trans (r_il_n d140_1 rfl) (Eq.trans (r_il_n d140_2 rfl) (r_cvE (as := [.int x1, .int x2]) (r := []) d140_3 c140_262 ow109 o_t0.2.1 np109.symm rfl (hs_fitE mL109 (Nat.le_of_ble_eq_true rfl)))))
theorem b140_6 {t0 t0_8 : Nat} {x1 x2 s0 : Int32} (o_t0 : ok10 S R t0) (e_t0_8 : R t0 8 = t0_8) (o_t0_8 : ok4 S R t0_8) : hs_R scr (d + 1) 140 6 [some (.ref t0), some (.int x1), some (.int x2), none] [.int s0] (S, I, L, R) = (if s0 = 0 then ((hs_C scr d 112 [.ref t0_8, .int x1, .int x2] (S, I, L, R)).bind fun o => hs_R scr (d + 1) 140 29 [some (.ref t0), some (.int x1), some (.int x2), some (.int s0)] (o.1.toList ++ [.ref t0]) o.2) else ((hs_C scr d 28 [.ref t0, .int s0] (S, I, L, R)).bind fun o => hs_R scr (d + 1) 140 16 [some (.ref t0), some (.int x1), some (.int x2), some (.int s0)] (o.1.toList ++ []) o.2)) := Eq.trans (r_is_n (loc' := [some (.ref t0), some (.int x1), some (.int x2), some (.int s0)]) d140_6 rfl) (Eq.trans (r_il_n d140_7 rfl) (Eq.trans (r_zeq d140_8 rfl) (q_ite (Eq.trans (r_al_n d140_19 rfl) (Eq.trans (r_al_n d140_20 rfl) (Eq.trans (r_getRe d140_21 f140_60 o_t0.2.1 e_t0_8 o_t0_8.1) (Eq.trans (r_il_n d140_24 rfl) (Eq.trans (r_il_n d140_25 rfl) (r_cvE (as := [.int x1, .int x2]) (r := [.ref t0]) d140_26 c140_268 ow112 o_t0_8.2.1 np112.symm rfl (hs_fitE mL112 (Nat.le_of_ble_eq_true rfl)))))))) (Eq.trans (r_al_n d140_11 rfl) (Eq.trans (r_il_n d140_12 rfl) (r_cvE (as := [.int s0]) (r := []) d140_13 c140_120 ow28 o_t0.2.1 np28.symm rfl (hs_fitE mL28 (Nat.le_of_ble_eq_true rfl))))))))
theorem b140_16 {t0 : Nat} {x1 x2 x3 s0 : Int32}  : hs_R scr d 140 16 [some (.ref t0), some (.int x1), some (.int x2), some (.int x3)] [.int s0] (S, I, L, R) = hs_R scr d 140 32 [some (.ref t0), some (.int x1), some (.int x2), some (.int x3)] [.int s0] (S, I, L, R) := Eq.trans (r_goto d140_16 rfl) (rfl)
theorem b140_29 {t0 u0 : Nat} {x1 x2 x3 s1 : Int32} (o_u0 : ok10 S R u0) : hs_R scr (d + 1) 140 29 [some (.ref t0), some (.int x1), some (.int x2), some (.int x3)] [.int s1, .ref u0] (S, I, L, R) = ((hs_C scr d 68 [.ref u0, .int s1] (S, I, L, R)).bind fun o => hs_R scr (d + 1) 140 32 [some (.ref t0), some (.int x1), some (.int x2), some (.int x3)] (o.1.toList ++ []) o.2) := r_cvE (as := [.int s1]) (r := []) d140_29 c140_173 ow68 o_u0.2.1 np68.symm rfl (hs_fitE mL68 (Nat.le_of_ble_eq_true rfl))
theorem b140_32 {t0 : Nat} {x1 x2 x3 s0 : Int32}  : hs_R scr d 140 32 [some (.ref t0), some (.int x1), some (.int x2), some (.int x3)] [.int s0] (S, I, L, R) = some (some (.int s0), (S, I, L, R)) := r_ri d140_32 rt140
theorem e141 {t0 : Nat} {x1 : Int32} : hs_C scr d 141 [.ref t0, .int x1] h = hs_R scr d 141 0 [some (.ref t0), some (.int x1), none] [] h := by rw [hs_C, mL141]; rfl
theorem b141_0 {t0 : Nat} {x1 : Int32} (o_t0 : ok10 S R t0) : hs_R scr (d + 1) 141 0 [some (.ref t0), some (.int x1), none] [] (S, I, L, R) = ((hs_C scr d 89 [.ref t0, .int x1] (S, I, L, R)).bind fun o => hs_R scr (d + 1) 141 5 [some (.ref t0), some (.int x1), none] (o.1.toList ++ []) o.2) := Eq.trans (r_al_n d141_0 rfl) (Eq.trans (r_il_n d141_1 rfl) (r_cvE (as := [.int x1]) (r := []) d141_2 c141_199 ow89 o_t0.2.1 np89.symm rfl (hs_fitE mL89 (Nat.le_of_ble_eq_true rfl))))
theorem b141_5 {t0 : Nat} {x1 s0 : Int32} (o_t0 : ok10 S R t0) : hs_R scr (d + 1) 141 5 [some (.ref t0), some (.int x1), none] [.int s0] (S, I, L, R) = (if s0 = 0 then ((hs_C scr d 28 [.ref t0, .int 2] (S, I, L, R)).bind fun o => hs_R scr (d + 1) 141 13 [some (.ref t0), some (.int x1), none] (o.1.toList ++ []) o.2) else hs_R scr (d + 1) 141 16 [some (.ref t0), some (.int x1), some (.int 0)] [] (S, I, L, R)) := Eq.trans (r_zne d141_5 rfl) (q_ite (Eq.trans (r_al_n d141_8 rfl) (Eq.trans (r_ic d141_9 kI_2) (r_cvE (as := [.int 2]) (r := []) d141_10 c141_120 ow28 o_t0.2.1 np28.symm rfl (hs_fitE mL28 (Nat.le_of_ble_eq_true rfl))))) (Eq.trans (r_ic d141_14 kI_0) (Eq.trans (r_is_n (loc' := [some (.ref t0), some (.int x1), some (.int 0)]) d141_15 rfl) (rfl))))
theorem b141_13 {t0 : Nat} {x1 s0 : Int32}  : hs_R scr d 141 13 [some (.ref t0), some (.int x1), none] [.int s0] (S, I, L, R) = some (some (.int s0), (S, I, L, R)) := r_ri d141_13 rt141
theorem b141_16 {t0 t0_8 : Nat} {x1 x2 : Int32} (o_t0 : ok10 S R t0) (e_t0_8 : R t0 8 = t0_8) (o_t0_8 : ok4 S R t0_8) : hs_R scr (d + 1) 141 16 [some (.ref t0), some (.int x1), some (.int x2)] [] (S, I, L, R) = (if hs_ib x1 8 = true then (if (I (t0_8 + 6) (Int32.toNatClampNeg x1)) ≤ x2 then ((hs_C scr d 28 [.ref t0, .int 8] (S, I, L, R)).bind fun o => hs_R scr (d + 1) 141 62 [some (.ref t0), some (.int x1), some (.int x2)] (o.1.toList ++ []) o.2) else ((hs_C scr d 112 [.ref t0_8, .int x1, .int x2] (S, I, L, R)).bind fun o => hs_R scr (d + 1) 141 41 [some (.ref t0), some (.int x1), some (.int x2)] (o.1.toList ++ []) o.2)) else none) := Eq.trans (r_il_n d141_16 rfl) (Eq.trans (r_al_n d141_17 rfl) (Eq.trans (r_getRe d141_18 f141_60 o_t0.2.1 e_t0_8 o_t0_8.1) (Eq.trans (r_getRe d141_21 f141_164 o_t0_8.2.1 (o_t0_8.2.2.2.2.1) (Nat.le_trans o_t0_8.1 (Nat.le_add_right _ _))) (Eq.trans (r_getRe d141_24 f141_202 (o_t0_8.2.2.2.2.2.1).2.1 ((o_t0_8.2.2.2.2.2.1).2.2.1) (Nat.le_trans (o_t0_8.2.2.2.2.2.1).1 (Nat.le_add_right _ _))) (Eq.trans (r_il_n d141_27 rfl) (Eq.trans (r_iald d141_28 ((o_t0_8.2.2.2.2.2.1).2.2.2.1)) (q_ite (Eq.trans (r_cge d141_29 rfl) (q_ite (Eq.trans (r_al_n d141_56 rfl) (Eq.trans (r_bp d141_57 kB_8) (r_cvE (as := [.int 8]) (r := []) d141_59 c141_120 ow28 o_t0.2.1 np28.symm rfl (hs_fitE mL28 (Nat.le_of_ble_eq_true rfl))))) (Eq.trans (r_al_n d141_32 rfl) (Eq.trans (r_getRe d141_33 f141_60 o_t0.2.1 e_t0_8 o_t0_8.1) (Eq.trans (r_il_n d141_36 rfl) (Eq.trans (r_il_n d141_37 rfl) (r_cvE (as := [.int x1, .int x2]) (r := []) d141_38 c141_268 ow112 o_t0_8.2.1 np112.symm rfl (hs_fitE mL112 (Nat.le_of_ble_eq_true rfl))))))))) rfl)))))))
theorem b141_41 {t0 : Nat} {x1 x2 s0 : Int32} (o_t0 : ok10 S R t0) : hs_R scr (d + 1) 141 41 [some (.ref t0), some (.int x1), some (.int x2)] [.int s0] (S, I, L, R) = (if s0 ≤ 0 then hs_R scr (d + 1) 141 16 [some (.ref t0), some (.int x1), some (.int (x2 + 1))] [] (S, I, L, R) else ((hs_C scr d 68 [.ref t0, .int x2] (S, I, L, R)).bind fun o => hs_R scr (d + 1) 141 49 [some (.ref t0), some (.int x1), some (.int x2)] (o.1.toList ++ []) o.2)) := Eq.trans (r_zle d141_41 rfl) (q_ite (Eq.trans (r_inc (loc' := [some (.ref t0), some (.int x1), some (.int (x2 + 1))]) d141_50 kI_1 rfl rfl) (Eq.trans (r_goto d141_53 rfl) (rfl))) (Eq.trans (r_al_n d141_44 rfl) (Eq.trans (r_il_n d141_45 rfl) (r_cvE (as := [.int x2]) (r := []) d141_46 c141_173 ow68 o_t0.2.1 np68.symm rfl (hs_fitE mL68 (Nat.le_of_ble_eq_true rfl))))))
theorem b141_49 {t0 : Nat} {x1 x2 s0 : Int32}  : hs_R scr d 141 49 [some (.ref t0), some (.int x1), some (.int x2)] [.int s0] (S, I, L, R) = some (some (.int s0), (S, I, L, R)) := r_ri d141_49 rt141
theorem b141_62 {t0 : Nat} {x1 x2 s0 : Int32}  : hs_R scr d 141 62 [some (.ref t0), some (.int x1), some (.int x2)] [.int s0] (S, I, L, R) = some (some (.int s0), (S, I, L, R)) := r_ri d141_62 rt141
theorem e142 {t0 : Nat} {x1 : Int32} : hs_C scr d 142 [.ref t0, .int x1] h = hs_R scr d 142 0 [some (.ref t0), some (.int x1)] [] h := by rw [hs_C, mL142]; rfl
theorem b142_0 {t0 : Nat} {x1 : Int32} (o_t0 : ok10 S R t0) : hs_R scr (d + 1) 142 0 [some (.ref t0), some (.int x1)] [] (S, I, L, R) = (if x1 < 0 then hs_R scr (d + 1) 142 11 [some (.ref t0), some (.int x1)] [] (S, I, L, R) else (if x1 ≤ 999 then ((hs_C scr d 143 [.ref t0, .int x1] (S, I, L, R)).bind fun o => hs_R scr (d + 1) 142 23 [some (.ref t0), some (.int x1)] (o.1.toList ++ [.ref t0]) o.2) else hs_R scr (d + 1) 142 11 [some (.ref t0), some (.int x1)] [] (S, I, L, R))) := Eq.trans (r_il_n d142_0 rfl) (Eq.trans (r_zlt d142_1 rfl) (q_ite (rfl) (Eq.trans (r_il_n d142_4 rfl) (Eq.trans (r_sp d142_5 kS_999) (Eq.trans (r_cle d142_8 rfl) (q_ite (Eq.trans (r_al_n d142_17 rfl) (Eq.trans (r_al_n d142_18 rfl) (Eq.trans (r_il_n d142_19 rfl) (r_cvE (as := [.int x1]) (r := [.ref t0]) d142_20 c142_322 ow143 o_t0.2.1 np143.symm rfl (hs_fitE mL143 (Nat.le_of_ble_eq_true rfl)))))) (rfl)))))))
theorem b142_11 {t0 : Nat} {x1 : Int32} (o_t0 : ok10 S R t0) : hs_R scr (d + 1) 142 11 [some (.ref t0), some (.int x1)] [] (S, I, L, R) = ((hs_C scr d 28 [.ref t0, .int 5] (S, I, L, R)).bind fun o => hs_R scr (d + 1) 142 16 [some (.ref t0), some (.int x1)] (o.1.toList ++ []) o.2) := Eq.trans (r_al_n d142_11 rfl) (Eq.trans (r_ic d142_12 kI_5) (r_cvE (as := [.int 5]) (r := []) d142_13 c142_120 ow28 o_t0.2.1 np28.symm rfl (hs_fitE mL28 (Nat.le_of_ble_eq_true rfl))))
theorem b142_16 {t0 : Nat} {x1 s0 : Int32}  : hs_R scr d 142 16 [some (.ref t0), some (.int x1)] [.int s0] (S, I, L, R) = some (some (.int s0), (S, I, L, R)) := r_ri d142_16 rt142
theorem b142_23 {t0 u0 : Nat} {x1 s1 : Int32}  : hs_R scr (d + 1) 142 23 [some (.ref t0), some (.int x1)] [.int s1, .ref u0] (S, I, L, R) = ((hs_C scr d 139 [.int s1] (S, I, L, R)).bind fun o => hs_R scr (d + 1) 142 26 [some (.ref t0), some (.int x1)] (o.1.toList ++ [.ref u0]) o.2) := r_cs (as := [.int s1]) (r := [.ref u0]) d142_23 c142_317 np139.symm rfl (hs_fitE mL139 (Nat.le_of_ble_eq_true rfl))
theorem b142_26 {t0 u0 : Nat} {x1 s1 : Int32} (o_u0 : ok10 S R u0) : hs_R scr (d + 1) 142 26 [some (.ref t0), some (.int x1)] [.int s1, .ref u0] (S, I, L, R) = ((hs_C scr d 68 [.ref u0, .int s1] (S, I, L, R)).bind fun o => hs_R scr (d + 1) 142 29 [some (.ref t0), some (.int x1)] (o.1.toList ++ []) o.2) := r_cvE (as := [.int s1]) (r := []) d142_26 c142_173 ow68 o_u0.2.1 np68.symm rfl (hs_fitE mL68 (Nat.le_of_ble_eq_true rfl))
theorem b142_29 {t0 : Nat} {x1 s0 : Int32}  : hs_R scr d 142 29 [some (.ref t0), some (.int x1)] [.int s0] (S, I, L, R) = some (some (.int s0), (S, I, L, R)) := r_ri d142_29 rt142
theorem e143 {t0 : Nat} {x1 : Int32} : hs_C scr d 143 [.ref t0, .int x1] h = hs_R scr d 143 0 [some (.ref t0), some (.int x1), none, none, none, none] [] h := by rw [hs_C, mL143]; rfl
theorem b143_0 {t0 : Nat} {x1 : Int32} (o_t0 : ok10 S R t0) : hs_R scr (d + 1) 143 0 [some (.ref t0), some (.int x1), none, none, none, none] [] (S, I, L, R) = ((hs_C scr d 144 [.ref t0] (S, I, L, R)).bind fun o => hs_R scr (d + 1) 143 4 [some (.ref t0), some (.int x1), none, none, none, none] (o.1.toList ++ []) o.2) := Eq.trans (r_al_n d143_0 rfl) (r_cvE (as := []) (r := []) d143_1 c143_405 ow144 o_t0.2.1 np144.symm rfl (hs_fitE mL144 (Nat.le_of_ble_eq_true rfl)))
theorem b143_4 {t0 t0_8 : Nat} {x1 s0 : Int32} (o_t0 : ok10 S R t0) (e_t0_8 : R t0 8 = t0_8) (o_t0_8 : ok4 S R t0_8) : hs_R scr (d + 1) 143 4 [some (.ref t0), some (.int x1), none, none, none, none] [.int s0] (S, I, L, R) = ((hs_C scr d 86 [.ref (t0_8 + 5)] (S, I, L, R)).bind fun o => hs_R scr (d + 1) 143 15 [some (.ref t0), some (.int x1), some (.int s0), none, none, none] (o.1.toList ++ []) o.2) := Eq.trans (r_is_n (loc' := [some (.ref t0), some (.int x1), some (.int s0), none, none, none]) d143_4 rfl) (Eq.trans (r_al_n d143_5 rfl) (Eq.trans (r_getRe d143_6 f143_60 o_t0.2.1 e_t0_8 o_t0_8.1) (Eq.trans (r_getRe d143_9 f143_164 o_t0_8.2.1 (o_t0_8.2.2.2.2.1) (Nat.le_trans o_t0_8.1 (Nat.le_add_right _ _))) (r_cvE (as := []) (r := []) d143_12 c143_250 ow86 (o_t0_8.2.2.2.2.2.1).2.1 np86.symm rfl (hs_fitE mL86 (Nat.le_of_ble_eq_true rfl))))))
theorem b143_15 {t0 : Nat} {x1 x2 s0 : Int32}  : hs_R scr d 143 15 [some (.ref t0), some (.int x1), some (.int x2), none, none, none] [.int s0] (S, I, L, R) = hs_R scr d 143 28 [some (.ref t0), some (.int x1), some (.int x2), some (.int (s0 - x1)), some (.int (x2 - 1)), some (.int (x2 - 1))] [] (S, I, L, R) := Eq.trans (r_il_n d143_15 rfl) (Eq.trans (r_isub d143_16) (Eq.trans (r_is_n (loc' := [some (.ref t0), some (.int x1), some (.int x2), some (.int (s0 - x1)), none, none]) d143_17 rfl) (Eq.trans (r_il_n d143_18 rfl) (Eq.trans (r_ic d143_19 kI_1) (Eq.trans (r_isub d143_20) (Eq.trans (r_is (loc' := [some (.ref t0), some (.int x1), some (.int x2), some (.int (s0 - x1)), some (.int (x2 - 1)), none]) d143_21 rfl) (Eq.trans (r_il_n d143_23 rfl) (Eq.trans (r_ic d143_24 kI_1) (Eq.trans (r_isub d143_25) (Eq.trans (r_is (loc' := [some (.ref t0), some (.int x1), some (.int x2), some (.int (s0 - x1)), some (.int (x2 - 1)), some (.int (x2 - 1))]) d143_26 rfl) (rfl)))))))))))
theorem b143_28 {t0 : Nat} {x1 x2 x3 x4 x5 : Int32} (o_t0 : ok10 S R t0) : hs_R scr (d + 1) 143 28 [some (.ref t0), some (.int x1), some (.int x2), some (.int x3), some (.int x4), some (.int x5)] [] (S, I, L, R) = (if x5 < 0 then some (some (.int x4), (S, I, L, R)) else (if hs_ib x5 1024 = true then (if (I (t0 + 15) (Int32.toNatClampNeg x5)) < x3 then hs_R scr (d + 1) 143 61 [some (.ref t0), some (.int x1), some (.int x2), some (.int x3), some (.int x4), some (.int x5)] [] (S, I, L, R) else ((hs_C scr d 139 [.int x5] (S, I, L, R)).bind fun o => hs_R scr (d + 1) 143 49 [some (.ref t0), some (.int x1), some (.int x2), some (.int x3), some (.int x4), some (.int x5)] (o.1.toList ++ []) o.2)) else none)) := Eq.trans (r_il d143_28 rfl) (Eq.trans (r_zlt d143_30 rfl) (q_ite (Eq.trans (r_il d143_67 rfl) (r_ri d143_69 rt143)) (Eq.trans (r_al_n d143_33 rfl) (Eq.trans (r_getRe d143_34 f143_55 o_t0.2.1 (o_t0.2.2.2.2.2.2.2.2.2.2.2.2.2.2.2.2.1) (Nat.le_trans o_t0.1 (Nat.le_add_right _ _))) (Eq.trans (r_il d143_37 rfl) (Eq.trans (r_iald d143_39 (o_t0.2.2.2.2.2.2.2.2.2.2.2.2.2.2.2.2.2.1)) (q_ite (Eq.trans (r_il_n d143_40 rfl) (Eq.trans (r_clt d143_41 rfl) (q_ite (rfl) (Eq.trans (r_il d143_44 rfl) (r_cs (as := [.int x5]) (r := []) d143_46 c143_317 np139.symm rfl (hs_fitE mL139 (Nat.le_of_ble_eq_true rfl))))))) rfl)))))))
theorem b143_49 {t0 : Nat} {x1 x2 x3 x4 x5 s0 : Int32}  : hs_R scr (d + 1) 143 49 [some (.ref t0), some (.int x1), some (.int x2), some (.int x3), some (.int x4), some (.int x5)] [.int s0] (S, I, L, R) = ((hs_C scr d 139 [.int x4] (S, I, L, R)).bind fun o => hs_R scr (d + 1) 143 54 [some (.ref t0), some (.int x1), some (.int x2), some (.int x3), some (.int x4), some (.int x5)] (o.1.toList ++ [.int s0]) o.2) := Eq.trans (r_il d143_49 rfl) (r_cs (as := [.int x4]) (r := [.int s0]) d143_51 c143_317 np139.symm rfl (hs_fitE mL139 (Nat.le_of_ble_eq_true rfl)))
theorem b143_54 {t0 : Nat} {x1 x2 x3 x4 x5 s0 s1 : Int32}  : hs_R scr d 143 54 [some (.ref t0), some (.int x1), some (.int x2), some (.int x3), some (.int x4), some (.int x5)] [.int s1, .int s0] (S, I, L, R) = (if s1 < s0 then hs_R scr d 143 61 [some (.ref t0), some (.int x1), some (.int x2), some (.int x3), some (.int x4), some (.int x5)] [] (S, I, L, R) else hs_R scr d 143 61 [some (.ref t0), some (.int x1), some (.int x2), some (.int x3), some (.int x5), some (.int x5)] [] (S, I, L, R)) := Eq.trans (r_cgt d143_54 rfl) (q_ite (rfl) (Eq.trans (r_il d143_57 rfl) (Eq.trans (r_is (loc' := [some (.ref t0), some (.int x1), some (.int x2), some (.int x3), some (.int x5), some (.int x5)]) d143_59 rfl) (rfl))))
theorem b143_61 {t0 : Nat} {x1 x2 x3 x4 x5 : Int32}  : hs_R scr d 143 61 [some (.ref t0), some (.int x1), some (.int x2), some (.int x3), some (.int x4), some (.int x5)] [] (S, I, L, R) = hs_R scr d 143 28 [some (.ref t0), some (.int x1), some (.int x2), some (.int x3), some (.int x4), some (.int (x5 + (-1)))] [] (S, I, L, R) := Eq.trans (r_inc (loc' := [some (.ref t0), some (.int x1), some (.int x2), some (.int x3), some (.int x4), some (.int (x5 + (-1)))]) d143_61 kI_m1 rfl rfl) (Eq.trans (r_goto d143_64 rfl) (rfl))
theorem e144 {t0 : Nat} : hs_C scr d 144 [.ref t0] h = hs_R scr d 144 0 [some (.ref t0), none, none, none, none, none] [] h := by rw [hs_C, mL144]; rfl
theorem b144_0 {t0 t0_8 : Nat} (o_t0 : ok10 S R t0) (e_t0_8 : R t0 8 = t0_8) (o_t0_8 : ok4 S R t0_8) : hs_R scr d 144 0 [some (.ref t0), none, none, none, none, none] [] (S, I, L, R) = hs_R scr d 144 24 [some (.ref t0), some (.ref (t0_8 + 5)), some (.int ((1 : Int32) <<< ((I (t0_8 + 5) 4) &&& 31))), some (.int 0), none, none] [] (S, (hs_u I (t0 + 15) 0 0), L, R) := Eq.trans (r_al_n d144_0 rfl) (Eq.trans (r_getRe d144_1 f144_60 o_t0.2.1 e_t0_8 o_t0_8.1) (Eq.trans (r_getRe d144_4 f144_164 o_t0_8.2.1 (o_t0_8.2.2.2.2.1) (Nat.le_trans o_t0_8.1 (Nat.le_add_right _ _))) (Eq.trans (r_as_n (loc' := [some (.ref t0), some (.ref (t0_8 + 5)), none, none, none, none]) d144_7 rfl) (Eq.trans (r_ic d144_8 kI_1) (Eq.trans (r_al_n d144_9 rfl) (Eq.trans (r_getI d144_10 f144_168 (o_t0_8.2.2.2.2.2.1).2.1) (Eq.trans (r_ishl d144_13) (Eq.trans (r_is_n (loc' := [some (.ref t0), some (.ref (t0_8 + 5)), some (.int ((1 : Int32) <<< ((I (t0_8 + 5) 4) &&& 31))), none, none, none]) d144_14 rfl) (Eq.trans (r_al_n d144_15 rfl) (Eq.trans (r_getRe d144_16 f144_55 o_t0.2.1 (o_t0.2.2.2.2.2.2.2.2.2.2.2.2.2.2.2.2.1) (Nat.le_trans o_t0.1 (Nat.le_add_right _ _))) (Eq.trans (r_ic d144_19 kI_0) (Eq.trans (r_ic d144_20 kI_0) (Eq.trans ((r_iastC d144_21 (o_t0.2.2.2.2.2.2.2.2.2.2.2.2.2.2.2.2.2.1) ib_0_1024 tn_0)) (Eq.trans (r_ic d144_22 kI_0) (Eq.trans (r_is_n (loc' := [some (.ref t0), some (.ref (t0_8 + 5)), some (.int ((1 : Int32) <<< ((I (t0_8 + 5) 4) &&& 31))), some (.int 0), none, none]) d144_23 rfl) (rfl))))))))))))))))
theorem b144_24 {t0 t1 : Nat} {x2 x3 : Int32} {w4 w5 : Option Value} (o_t1 : ok1 S R t1) : hs_R scr d 144 24 [some (.ref t0), some (.ref t1), some (.int x2), some (.int x3), w4, w5] [] (S, I, L, R) = (if (I t1 4) ≤ x3 then some (some (.int x2), (S, I, L, R)) else hs_R scr d 144 40 [some (.ref t0), some (.ref t1), some (.int x2), some (.int x3), some (.int ((1 : Int32) <<< (x3 &&& 31))), some (.int 0)] [] (S, I, L, R)) := Eq.trans (r_il_n d144_24 rfl) (Eq.trans (r_al_n d144_25 rfl) (Eq.trans (r_getI d144_26 f144_168 o_t1.2.1) (Eq.trans (r_cge d144_29 rfl) (q_ite (Eq.trans (r_il_n d144_83 rfl) (r_ri d144_84 rt144)) (Eq.trans (r_ic d144_32 kI_1) (Eq.trans (r_il_n d144_33 rfl) (Eq.trans (r_ishl d144_34) (Eq.trans (r_is (loc' := [some (.ref t0), some (.ref t1), some (.int x2), some (.int x3), some (.int ((1 : Int32) <<< (x3 &&& 31))), w5]) d144_35 rfl) (Eq.trans (r_ic d144_37 kI_0) (Eq.trans (r_is (loc' := [some (.ref t0), some (.ref t1), some (.int x2), some (.int x3), some (.int ((1 : Int32) <<< (x3 &&& 31))), some (.int 0)]) d144_38 rfl) (rfl)))))))))))
theorem b144_40 {t0 t1 : Nat} {x2 x3 x4 x5 : Int32} (o_t0 : ok10 S R t0) (o_t1 : ok1 S R t1) : hs_R scr d 144 40 [some (.ref t0), some (.ref t1), some (.int x2), some (.int x3), some (.int x4), some (.int x5)] [] (S, I, L, R) = (if x4 ≤ x5 then hs_R scr d 144 24 [some (.ref t0), some (.ref t1), some (.int x2), some (.int (x3 + 1)), some (.int x4), some (.int x5)] [] (S, I, L, R) else (if hs_ib x5 1024 = true then (if hs_ib x3 8 = true then (if hs_ib (x4 + x5) 1024 = true then hs_R scr d 144 40 [some (.ref t0), some (.ref t1), some (.int x2), some (.int x3), some (.int x4), some (.int (x5 + 1))] [] (S, (hs_u I (t0 + 15) (Int32.toNatClampNeg (x4 + x5)) ((I (t0 + 15) (Int32.toNatClampNeg x5)) + (I (t1 + 1) (Int32.toNatClampNeg x3)))), L, R) else none) else none) else none)) := Eq.trans (r_il d144_40 rfl) (Eq.trans (r_il d144_42 rfl) (Eq.trans (r_cge d144_44 rfl) (q_ite (Eq.trans (r_inc (loc' := [some (.ref t0), some (.ref t1), some (.int x2), some (.int (x3 + 1)), some (.int x4), some (.int x5)]) d144_77 kI_1 rfl rfl) (Eq.trans (r_goto d144_80 rfl) (rfl))) (Eq.trans (r_al_n d144_47 rfl) (Eq.trans (r_getRe d144_48 f144_55 o_t0.2.1 (o_t0.2.2.2.2.2.2.2.2.2.2.2.2.2.2.2.2.1) (Nat.le_trans o_t0.1 (Nat.le_add_right _ _))) (Eq.trans (r_il d144_51 rfl) (Eq.trans (r_il d144_53 rfl) (Eq.trans (r_iadd d144_55) (Eq.trans (r_al_n d144_56 rfl) (Eq.trans (r_getRe d144_57 f144_55 o_t0.2.1 (o_t0.2.2.2.2.2.2.2.2.2.2.2.2.2.2.2.2.1) (Nat.le_trans o_t0.1 (Nat.le_add_right _ _))) (Eq.trans (r_il d144_60 rfl) (Eq.trans (r_iald d144_62 (o_t0.2.2.2.2.2.2.2.2.2.2.2.2.2.2.2.2.2.1)) (q_ite (Eq.trans (r_al_n d144_63 rfl) (Eq.trans (r_getRe d144_64 f144_202 o_t1.2.1 (o_t1.2.2.1) (Nat.le_trans o_t1.1 (Nat.le_add_right _ _))) (Eq.trans (r_il_n d144_67 rfl) (Eq.trans (r_iald d144_68 (o_t1.2.2.2.1)) (q_ite (Eq.trans (r_iadd d144_69) (Eq.trans (r_iast d144_70 (o_t0.2.2.2.2.2.2.2.2.2.2.2.2.2.2.2.2.2.1)) (q_ite (Eq.trans (r_inc (loc' := [some (.ref t0), some (.ref t1), some (.int x2), some (.int x3), some (.int x4), some (.int (x5 + 1))]) d144_71 kI_1 rfl rfl) (Eq.trans (r_goto d144_74 rfl) (rfl))) rfl))) rfl))))) rfl)))))))))))))
theorem e145 {t0 : Nat} {x1 : Int32} : hs_C scr d 145 [.ref t0, .int x1] h = hs_R scr d 145 0 [some (.ref t0), some (.int x1)] [] h := by rw [hs_C, mL145]; rfl
theorem b145_0 {t0 : Nat} {x1 : Int32} (o_t0 : ok10 S R t0) : hs_R scr (d + 1) 145 0 [some (.ref t0), some (.int x1)] [] (S, I, L, R) = (if x1 < 0 then hs_R scr (d + 1) 145 11 [some (.ref t0), some (.int x1)] [] (S, I, L, R) else (if x1 ≤ 999 then ((hs_C scr d 143 [.ref t0, .int x1] (S, I, L, R)).bind fun o => hs_R scr (d + 1) 145 25 [some (.ref t0), some (.int x1)] (o.1.toList ++ [.ref t0]) o.2) else hs_R scr (d + 1) 145 11 [some (.ref t0), some (.int x1)] [] (S, I, L, R))) := Eq.trans (r_il_n d145_0 rfl) (Eq.trans (r_zlt d145_1 rfl) (q_ite (rfl) (Eq.trans (r_il_n d145_4 rfl) (Eq.trans (r_sp d145_5 kS_999) (Eq.trans (r_cle d145_8 rfl) (q_ite (Eq.trans (r_al_n d145_19 rfl) (Eq.trans (r_al_n d145_20 rfl) (Eq.trans (r_il_n d145_21 rfl) (r_cvE (as := [.int x1]) (r := [.ref t0]) d145_22 c145_322 ow143 o_t0.2.1 np143.symm rfl (hs_fitE mL143 (Nat.le_of_ble_eq_true rfl)))))) (rfl)))))))
theorem b145_11 {t0 : Nat} {x1 : Int32} (o_t0 : ok10 S R t0) : hs_R scr (d + 1) 145 11 [some (.ref t0), some (.int x1)] [] (S, I, L, R) = ((hs_C scr d 28 [.ref t0, .int 5] (S, I, L, R)).bind fun o => hs_R scr (d + 1) 145 16 [some (.ref t0), some (.int x1)] (o.1.toList ++ []) o.2) := Eq.trans (r_al_n d145_11 rfl) (Eq.trans (r_ic d145_12 kI_5) (r_cvE (as := [.int 5]) (r := []) d145_13 c145_120 ow28 o_t0.2.1 np28.symm rfl (hs_fitE mL28 (Nat.le_of_ble_eq_true rfl))))
theorem b145_16 {t0 : Nat} {x1 s0 : Int32}  : hs_R scr d 145 16 [some (.ref t0), some (.int x1)] [.int s0] (S, I, L, R) = hs_R scr d 145 28 [some (.ref t0), some (.int x1)] [.int s0] (S, I, L, R) := Eq.trans (r_goto d145_16 rfl) (rfl)
theorem b145_25 {t0 u0 : Nat} {x1 s1 : Int32} (o_u0 : ok10 S R u0) : hs_R scr (d + 1) 145 25 [some (.ref t0), some (.int x1)] [.int s1, .ref u0] (S, I, L, R) = ((hs_C scr d 68 [.ref u0, .int s1] (S, I, L, R)).bind fun o => hs_R scr (d + 1) 145 28 [some (.ref t0), some (.int x1)] (o.1.toList ++ []) o.2) := r_cvE (as := [.int s1]) (r := []) d145_25 c145_173 ow68 o_u0.2.1 np68.symm rfl (hs_fitE mL68 (Nat.le_of_ble_eq_true rfl))
theorem b145_28 {t0 : Nat} {x1 s0 : Int32}  : hs_R scr d 145 28 [some (.ref t0), some (.int x1)] [.int s0] (S, I, L, R) = some (some (.int s0), (S, I, L, R)) := r_ri d145_28 rt145
theorem e146 {t0 : Nat} : hs_C scr d 146 [.ref t0] h = hs_R scr d 146 0 [some (.ref t0)] [] h := by rw [hs_C, mL146]; rfl
theorem b146_0 {t0 : Nat} (o_t0 : ok10 S R t0) : hs_R scr (d + 1) 146 0 [some (.ref t0)] [] (S, I, L, R) = ((hs_C scr d 147 [.ref t0] (S, I, L, R)).bind fun o => hs_R scr (d + 1) 146 5 [some (.ref t0)] (o.1.toList ++ [.ref t0]) o.2) := Eq.trans (r_al_n d146_0 rfl) (Eq.trans (r_al_n d146_1 rfl) (r_cvE (as := []) (r := [.ref t0]) d146_2 c146_325 ow147 o_t0.2.1 np147.symm rfl (hs_fitE mL147 (Nat.le_of_ble_eq_true rfl))))
theorem b146_5 {t0 u0 : Nat} {s1 : Int32} (o_u0 : ok10 S R u0) : hs_R scr (d + 1) 146 5 [some (.ref t0)] [.int s1, .ref u0] (S, I, L, R) = ((hs_C scr d 68 [.ref u0, .int s1] (S, I, L, R)).bind fun o => hs_R scr (d + 1) 146 8 [some (.ref t0)] (o.1.toList ++ []) o.2) := r_cvE (as := [.int s1]) (r := []) d146_5 c146_173 ow68 o_u0.2.1 np68.symm rfl (hs_fitE mL68 (Nat.le_of_ble_eq_true rfl))
theorem b146_8 {t0 : Nat} {s0 : Int32}  : hs_R scr d 146 8 [some (.ref t0)] [.int s0] (S, I, L, R) = some (some (.int s0), (S, I, L, R)) := r_ri d146_8 rt146
theorem e147 {t0 : Nat} : hs_C scr d 147 [.ref t0] h = hs_R scr d 147 0 [some (.ref t0), none, none, none, none] [] h := by rw [hs_C, mL147]; rfl
theorem b147_0 {t0 : Nat} (o_t0 : ok10 S R t0) : hs_R scr (d + 1) 147 0 [some (.ref t0), none, none, none, none] [] (S, I, L, R) = ((hs_C scr d 144 [.ref t0] (S, I, L, R)).bind fun o => hs_R scr (d + 1) 147 4 [some (.ref t0), none, none, none, none] (o.1.toList ++ []) o.2) := Eq.trans (r_al_n d147_0 rfl) (r_cvE (as := []) (r := []) d147_1 c147_405 ow144 o_t0.2.1 np144.symm rfl (hs_fitE mL144 (Nat.le_of_ble_eq_true rfl)))
theorem b147_4 {t0 t0_8 : Nat} {s0 : Int32} (o_t0 : ok10 S R t0) (e_t0_8 : R t0 8 = t0_8) (o_t0_8 : ok4 S R t0_8) : hs_R scr (d + 1) 147 4 [some (.ref t0), none, none, none, none] [.int s0] (S, I, L, R) = ((hs_C scr d 86 [.ref (t0_8 + 5)] (S, I, L, R)).bind fun o => hs_R scr (d + 1) 147 15 [some (.ref t0), some (.int s0), none, none, none] (o.1.toList ++ []) o.2) := Eq.trans (r_is_n (loc' := [some (.ref t0), some (.int s0), none, none, none]) d147_4 rfl) (Eq.trans (r_al_n d147_5 rfl) (Eq.trans (r_getRe d147_6 f147_60 o_t0.2.1 e_t0_8 o_t0_8.1) (Eq.trans (r_getRe d147_9 f147_164 o_t0_8.2.1 (o_t0_8.2.2.2.2.1) (Nat.le_trans o_t0_8.1 (Nat.le_add_right _ _))) (r_cvE (as := []) (r := []) d147_12 c147_250 ow86 (o_t0_8.2.2.2.2.2.1).2.1 np86.symm rfl (hs_fitE mL86 (Nat.le_of_ble_eq_true rfl))))))
theorem b147_15 {t0 : Nat} {x1 s0 : Int32}  : hs_R scr d 147 15 [some (.ref t0), some (.int x1), none, none, none] [.int s0] (S, I, L, R) = hs_R scr d 147 21 [some (.ref t0), some (.int x1), some (.int s0), some (.int 0), some (.int 1)] [] (S, I, L, R) := Eq.trans (r_is_n (loc' := [some (.ref t0), some (.int x1), some (.int s0), none, none]) d147_15 rfl) (Eq.trans (r_ic d147_16 kI_0) (Eq.trans (r_is_n (loc' := [some (.ref t0), some (.int x1), some (.int s0), some (.int 0), none]) d147_17 rfl) (Eq.trans (r_ic d147_18 kI_1) (Eq.trans (r_is (loc' := [some (.ref t0), some (.int x1), some (.int s0), some (.int 0), some (.int 1)]) d147_19 rfl) (rfl)))))
theorem b147_21 {t0 : Nat} {x1 x2 x3 x4 : Int32} (o_t0 : ok10 S R t0) : hs_R scr d 147 21 [some (.ref t0), some (.int x1), some (.int x2), some (.int x3), some (.int x4)] [] (S, I, L, R) = (if x1 ≤ x4 then some (some (.int x3), (S, I, L, R)) else (if hs_ib x4 1024 = true then (if hs_ib x3 1024 = true then (if (if 0 ≤ (x2 - ((2 : Int32) * (I (t0 + 15) (Int32.toNatClampNeg x3)))) then (x2 - ((2 : Int32) * (I (t0 + 15) (Int32.toNatClampNeg x3)))) else 0 - (x2 - ((2 : Int32) * (I (t0 + 15) (Int32.toNatClampNeg x3))))) ≤ (if 0 ≤ (x2 - ((2 : Int32) * (I (t0 + 15) (Int32.toNatClampNeg x4)))) then (x2 - ((2 : Int32) * (I (t0 + 15) (Int32.toNatClampNeg x4)))) else 0 - (x2 - ((2 : Int32) * (I (t0 + 15) (Int32.toNatClampNeg x4))))) then hs_R scr d 147 60 [some (.ref t0), some (.int x1), some (.int x2), some (.int x3), some (.int x4)] [] (S, I, L, R) else hs_R scr d 147 60 [some (.ref t0), some (.int x1), some (.int x2), some (.int x4), some (.int x4)] [] (S, I, L, R)) else none) else none)) := Eq.trans (r_il d147_21 rfl) (Eq.trans (r_il_n d147_23 rfl) (Eq.trans (r_cge d147_24 rfl) (q_ite (Eq.trans (r_il_n d147_66 rfl) (r_ri d147_67 rt147)) (Eq.trans (r_il_n d147_27 rfl) (Eq.trans (r_ic d147_28 kI_2) (Eq.trans (r_al_n d147_29 rfl) (Eq.trans (r_getRe d147_30 f147_55 o_t0.2.1 (o_t0.2.2.2.2.2.2.2.2.2.2.2.2.2.2.2.2.1) (Nat.le_trans o_t0.1 (Nat.le_add_right _ _))) (Eq.trans (r_il d147_33 rfl) (Eq.trans (r_iald d147_35 (o_t0.2.2.2.2.2.2.2.2.2.2.2.2.2.2.2.2.2.1)) (q_ite (Eq.trans (r_imul d147_36) (Eq.trans (r_isub d147_37) (Eq.trans (r_abs d147_38 c147_328 rfl) (Eq.trans (r_il_n d147_41 rfl) (Eq.trans (r_ic d147_42 kI_2) (Eq.trans (r_al_n d147_43 rfl) (Eq.trans (r_getRe d147_44 f147_55 o_t0.2.1 (o_t0.2.2.2.2.2.2.2.2.2.2.2.2.2.2.2.2.1) (Nat.le_trans o_t0.1 (Nat.le_add_right _ _))) (Eq.trans (r_il_n d147_47 rfl) (Eq.trans (r_iald d147_48 (o_t0.2.2.2.2.2.2.2.2.2.2.2.2.2.2.2.2.2.1)) (q_ite (Eq.trans (r_imul d147_49) (Eq.trans (r_isub d147_50) (Eq.trans (r_abs d147_51 c147_328 rfl) (Eq.trans (r_cge d147_54 rfl) (q_ite (rfl) (Eq.trans (r_il d147_57 rfl) (Eq.trans (r_is_n (loc' := [some (.ref t0), some (.int x1), some (.int x2), some (.int x4), some (.int x4)]) d147_59 rfl) (rfl)))))))) rfl)))))))))) rfl))))))))))
theorem b147_60 {t0 : Nat} {x1 x2 x3 x4 : Int32}  : hs_R scr d 147 60 [some (.ref t0), some (.int x1), some (.int x2), some (.int x3), some (.int x4)] [] (S, I, L, R) = hs_R scr d 147 21 [some (.ref t0), some (.int x1), some (.int x2), some (.int x3), some (.int (x4 + 1))] [] (S, I, L, R) := Eq.trans (r_inc (loc' := [some (.ref t0), some (.int x1), some (.int x2), some (.int x3), some (.int (x4 + 1))]) d147_60 kI_1 rfl rfl) (Eq.trans (r_goto d147_63 rfl) (rfl))
theorem e148 {t0 : Nat} : hs_C scr d 148 [.ref t0] h = hs_R scr d 148 0 [some (.ref t0), none] [] h := by rw [hs_C, mL148]; rfl
theorem b148_0 {t0 : Nat} (o_t0 : ok10 S R t0) : hs_R scr (d + 1) 148 0 [some (.ref t0), none] [] (S, I, L, R) = ((hs_C scr d 147 [.ref t0] (S, I, L, R)).bind fun o => hs_R scr (d + 1) 148 4 [some (.ref t0), none] (o.1.toList ++ []) o.2) := Eq.trans (r_al_n d148_0 rfl) (r_cvE (as := []) (r := []) d148_1 c148_325 ow147 o_t0.2.1 np147.symm rfl (hs_fitE mL147 (Nat.le_of_ble_eq_true rfl)))
theorem b148_4 {t0 t0_8 : Nat} {s0 : Int32} (o_t0 : ok10 S R t0) (e_t0_8 : R t0 8 = t0_8) (o_t0_8 : ok4 S R t0_8) : hs_R scr (d + 1) 148 4 [some (.ref t0), none] [.int s0] (S, I, L, R) = ((hs_C scr d 86 [.ref (t0_8 + 5)] (S, I, L, R)).bind fun o => hs_R scr (d + 1) 148 16 [some (.ref t0), some (.int s0)] (o.1.toList ++ [.ref t0]) o.2) := Eq.trans (r_is_n (loc' := [some (.ref t0), some (.int s0)]) d148_4 rfl) (Eq.trans (r_al_n d148_5 rfl) (Eq.trans (r_al_n d148_6 rfl) (Eq.trans (r_getRe d148_7 f148_60 o_t0.2.1 e_t0_8 o_t0_8.1) (Eq.trans (r_getRe d148_10 f148_164 o_t0_8.2.1 (o_t0_8.2.2.2.2.1) (Nat.le_trans o_t0_8.1 (Nat.le_add_right _ _))) (r_cvE (as := []) (r := [.ref t0]) d148_13 c148_250 ow86 (o_t0_8.2.2.2.2.2.1).2.1 np86.symm rfl (hs_fitE mL86 (Nat.le_of_ble_eq_true rfl)))))))
theorem b148_16 {t0 u0 : Nat} {x1 s1 : Int32} (o_t0 : ok10 S R t0) (o_u0 : ok10 S R u0) : hs_R scr (d + 1) 148 16 [some (.ref t0), some (.int x1)] [.int s1, .ref u0] (S, I, L, R) = (if hs_ib x1 1024 = true then ((hs_C scr d 68 [.ref u0, .int (if 0 ≤ (s1 - ((2 : Int32) * (I (t0 + 15) (Int32.toNatClampNeg x1)))) then (s1 - ((2 : Int32) * (I (t0 + 15) (Int32.toNatClampNeg x1)))) else 0 - (s1 - ((2 : Int32) * (I (t0 + 15) (Int32.toNatClampNeg x1)))))] (S, I, L, R)).bind fun o => hs_R scr (d + 1) 148 31 [some (.ref t0), some (.int x1)] (o.1.toList ++ []) o.2) else none) := Eq.trans (r_ic d148_16 kI_2) (Eq.trans (r_al_n d148_17 rfl) (Eq.trans (r_getRe d148_18 f148_55 o_t0.2.1 (o_t0.2.2.2.2.2.2.2.2.2.2.2.2.2.2.2.2.1) (Nat.le_trans o_t0.1 (Nat.le_add_right _ _))) (Eq.trans (r_il_n d148_21 rfl) (Eq.trans (r_iald d148_22 (o_t0.2.2.2.2.2.2.2.2.2.2.2.2.2.2.2.2.2.1)) (q_ite (Eq.trans (r_imul d148_23) (Eq.trans (r_isub d148_24) (Eq.trans (r_abs d148_25 c148_328 rfl) (r_cvE (as := [.int (if 0 ≤ (s1 - ((2 : Int32) * (I (t0 + 15) (Int32.toNatClampNeg x1)))) then (s1 - ((2 : Int32) * (I (t0 + 15) (Int32.toNatClampNeg x1)))) else 0 - (s1 - ((2 : Int32) * (I (t0 + 15) (Int32.toNatClampNeg x1)))))]) (r := []) d148_28 c148_173 ow68 o_u0.2.1 np68.symm rfl (hs_fitE mL68 (Nat.le_of_ble_eq_true rfl)))))) rfl)))))
theorem b148_31 {t0 : Nat} {x1 s0 : Int32}  : hs_R scr d 148 31 [some (.ref t0), some (.int x1)] [.int s0] (S, I, L, R) = some (some (.int s0), (S, I, L, R)) := r_ri d148_31 rt148
theorem e149 {t0 : Nat} {x1 : Int32} {x2 : Int32} : hs_C scr d 149 [.ref t0, .int x1, .int x2] h = hs_R scr d 149 0 [some (.ref t0), some (.int x1), some (.int x2), none, none, none] [] h := by rw [hs_C, mL149]; rfl
theorem b149_0 {t0 : Nat} {x1 x2 : Int32}  : hs_R scr (d + 1) 149 0 [some (.ref t0), some (.int x1), some (.int x2), none, none, none] [] (S, I, L, R) = ((hs_C scr d 17 [.int x1] (S, I, L, R)).bind fun o => hs_R scr (d + 1) 149 4 [some (.ref t0), some (.int x1), some (.int x2), none, none, none] (o.1.toList ++ []) o.2) := Eq.trans (r_il_n d149_0 rfl) (r_cs (as := [.int x1]) (r := []) d149_1 c149_97 np17.symm rfl (hs_fitE mL17 (Nat.le_of_ble_eq_true rfl)))
theorem b149_4 {t0 : Nat} {x1 x2 s0 : Int32} (o_t0 : ok10 S R t0) : hs_R scr (d + 1) 149 4 [some (.ref t0), some (.int x1), some (.int x2), none, none, none] [.int s0] (S, I, L, R) = (if s0 = 0 then ((hs_C scr d 28 [.ref t0, .int 1] (S, I, L, R)).bind fun o => hs_R scr (d + 1) 149 12 [some (.ref t0), some (.int x1), some (.int x2), none, none, none] (o.1.toList ++ []) o.2) else (if hs_ib x1 4 = true ∧ 2 ≤ (R (t0 + 1) (Int32.toNatClampNeg x1)) then hs_R scr (d + 1) 149 19 [some (.ref t0), some (.int x1), some (.int x2), none, none, none] [.ref (R (t0 + 1) (Int32.toNatClampNeg x1))] (S, I, L, R) else none)) := Eq.trans (r_zne d149_4 rfl) (q_ite (Eq.trans (r_al_n d149_7 rfl) (Eq.trans (r_ic d149_8 kI_1) (r_cvE (as := [.int 1]) (r := []) d149_9 c149_120 ow28 o_t0.2.1 np28.symm rfl (hs_fitE mL28 (Nat.le_of_ble_eq_true rfl))))) (Eq.trans (r_al_n d149_13 rfl) (Eq.trans (r_getRe d149_14 f149_11 o_t0.2.1 (o_t0.2.2.1) (Nat.le_trans o_t0.1 (Nat.le_add_right _ _))) (Eq.trans (r_il_n d149_17 rfl) (Eq.trans (r_aald d149_18 (o_t0.2.2.2.1) (by decide)) (q_ite (rfl) rfl))))))
theorem b149_12 {t0 : Nat} {x1 x2 s0 : Int32}  : hs_R scr d 149 12 [some (.ref t0), some (.int x1), some (.int x2), none, none, none] [.int s0] (S, I, L, R) = some (some (.int s0), (S, I, L, R)) := r_ri d149_12 rt149
theorem b149_19 {t0 u0 : Nat} {x1 x2 : Int32} (o_u0 : ok9 S R u0) : hs_R scr (d + 1) 149 19 [some (.ref t0), some (.int x1), some (.int x2), none, none, none] [.ref u0] (S, I, L, R) = ((hs_C scr d 23 [.ref u0] (S, I, L, R)).bind fun o => hs_R scr (d + 1) 149 24 [some (.ref t0), some (.int x1), some (.int x2), some (.ref u0), none, none] (o.1.toList ++ []) o.2) := Eq.trans (r_as_n (loc' := [some (.ref t0), some (.int x1), some (.int x2), some (.ref u0), none, none]) d149_19 rfl) (Eq.trans (r_al_n d149_20 rfl) (r_cvE (as := []) (r := []) d149_21 c149_128 ow23 o_u0.2.1 np23.symm rfl (hs_fitE mL23 (Nat.le_of_ble_eq_true rfl))))
theorem b149_24 {t0 t3 : Nat} {x1 x2 s0 : Int32} (o_t3 : ok9 S R t3) (o_t0 : ok10 S R t0) : hs_R scr (d + 1) 149 24 [some (.ref t0), some (.int x1), some (.int x2), some (.ref t3), none, none] [.int s0] (S, I, L, R) = (if s0 = 0 then (if x2 ≤ ((I t3 2) / 2) then (if x2 < 0 then hs_R scr (d + 1) 149 67 [some (.ref t0), some (.int x1), some (.int x2), some (.ref t3), none, none] [] (S, I, L, R) else (if (20 : Int32) < x2 then hs_R scr (d + 1) 149 67 [some (.ref t0), some (.int x1), some (.int x2), some (.ref t3), none, none] [] (S, I, L, R) else ((hs_C scr d 150 [.ref t3, .int x2] (S, I, L, R)).bind fun o => hs_R scr (d + 1) 149 64 [some (.ref t0), some (.int x1), some (.int x2), some (.ref t3), none, none] (o.1.toList ++ []) o.2))) else ((hs_C scr d 28 [.ref t0, .int 4] (S, I, L, R)).bind fun o => hs_R scr (d + 1) 149 48 [some (.ref t0), some (.int x1), some (.int x2), some (.ref t3), none, none] (o.1.toList ++ []) o.2)) else ((hs_C scr d 28 [.ref t0, .int 3] (S, I, L, R)).bind fun o => hs_R scr (d + 1) 149 32 [some (.ref t0), some (.int x1), some (.int x2), some (.ref t3), none, none] (o.1.toList ++ []) o.2)) := Eq.trans (r_zeq d149_24 rfl) (q_ite (Eq.trans (r_il_n d149_33 rfl) (Eq.trans (r_al_n d149_34 rfl) (Eq.trans (r_getI d149_35 f149_333 o_t3.2.1) (Eq.trans (r_ic d149_38 kI_2) (Eq.trans ((r_idiv d149_39).trans (if_neg nzI_2)) (Eq.trans (r_cle d149_40 rfl) (q_ite (Eq.trans (r_il_n d149_49 rfl) (Eq.trans (r_zlt d149_50 rfl) (q_ite (rfl) (Eq.trans (r_il_n d149_53 rfl) (Eq.trans (r_bp d149_54 kB_20) (Eq.trans (r_cgt d149_56 rfl) (q_ite (rfl) (Eq.trans (r_al_n d149_59 rfl) (Eq.trans (r_il_n d149_60 rfl) (r_cvE (as := [.int x2]) (r := []) d149_61 c149_334 ow150 o_t3.2.1 np150.symm rfl (hs_fitE mL150 (Nat.le_of_ble_eq_true rfl)))))))))))) (Eq.trans (r_al_n d149_43 rfl) (Eq.trans (r_ic d149_44 kI_4) (r_cvE (as := [.int 4]) (r := []) d149_45 c149_120 ow28 o_t0.2.1 np28.symm rfl (hs_fitE mL28 (Nat.le_of_ble_eq_true rfl)))))))))))) (Eq.trans (r_al_n d149_27 rfl) (Eq.trans (r_ic d149_28 kI_3) (r_cvE (as := [.int 3]) (r := []) d149_29 c149_120 ow28 o_t0.2.1 np28.symm rfl (hs_fitE mL28 (Nat.le_of_ble_eq_true rfl))))))
theorem b149_32 {t0 t3 : Nat} {x1 x2 s0 : Int32}  : hs_R scr d 149 32 [some (.ref t0), some (.int x1), some (.int x2), some (.ref t3), none, none] [.int s0] (S, I, L, R) = some (some (.int s0), (S, I, L, R)) := r_ri d149_32 rt149
theorem b149_48 {t0 t3 : Nat} {x1 x2 s0 : Int32}  : hs_R scr d 149 48 [some (.ref t0), some (.int x1), some (.int x2), some (.ref t3), none, none] [.int s0] (S, I, L, R) = some (some (.int s0), (S, I, L, R)) := r_ri d149_48 rt149
theorem b149_64 {t0 t3 : Nat} {x1 x2 s0 : Int32}  : hs_R scr d 149 64 [some (.ref t0), some (.int x1), some (.int x2), some (.ref t3), none, none] [.int s0] (S, I, L, R) = (if s0 = 0 then hs_R scr d 149 67 [some (.ref t0), some (.int x1), some (.int x2), some (.ref t3), none, none] [] (S, I, L, R) else hs_R scr d 149 79 [some (.ref t0), some (.int x1), some (.int x2), some (.ref t3), some (.int 0), some (.int 0)] [] (S, I, L, R)) := Eq.trans (r_zne d149_64 rfl) (q_ite (rfl) (Eq.trans (r_ic d149_73 kI_0) (Eq.trans (r_is (loc' := [some (.ref t0), some (.int x1), some (.int x2), some (.ref t3), some (.int 0), none]) d149_74 rfl) (Eq.trans (r_ic d149_76 kI_0) (Eq.trans (r_is (loc' := [some (.ref t0), some (.int x1), some (.int x2), some (.ref t3), some (.int 0), some (.int 0)]) d149_77 rfl) (rfl))))))
theorem b149_67 {t0 t3 : Nat} {x1 x2 : Int32} (o_t0 : ok10 S R t0) : hs_R scr (d + 1) 149 67 [some (.ref t0), some (.int x1), some (.int x2), some (.ref t3), none, none] [] (S, I, L, R) = ((hs_C scr d 28 [.ref t0, .int 5] (S, I, L, R)).bind fun o => hs_R scr (d + 1) 149 72 [some (.ref t0), some (.int x1), some (.int x2), some (.ref t3), none, none] (o.1.toList ++ []) o.2) := Eq.trans (r_al_n d149_67 rfl) (Eq.trans (r_ic d149_68 kI_5) (r_cvE (as := [.int 5]) (r := []) d149_69 c149_120 ow28 o_t0.2.1 np28.symm rfl (hs_fitE mL28 (Nat.le_of_ble_eq_true rfl))))
theorem b149_72 {t0 t3 : Nat} {x1 x2 s0 : Int32}  : hs_R scr d 149 72 [some (.ref t0), some (.int x1), some (.int x2), some (.ref t3), none, none] [.int s0] (S, I, L, R) = some (some (.int s0), (S, I, L, R)) := r_ri d149_72 rt149
theorem b149_79 {t0 t3 t0_8 : Nat} {x1 x2 x4 x5 : Int32} (o_t0 : ok10 S R t0) (e_t0_8 : R t0 8 = t0_8) (o_t0_8 : ok4 S R t0_8) : hs_R scr (d + 1) 149 79 [some (.ref t0), some (.int x1), some (.int x2), some (.ref t3), some (.int x4), some (.int x5)] [] (S, I, L, R) = (if (I (t0_8 + 5) 4) ≤ x5 then ((hs_C scr d 68 [.ref t0, .int x4] (S, I, L, R)).bind fun o => hs_R scr (d + 1) 149 126 [some (.ref t0), some (.int x1), some (.int x2), some (.ref t3), some (.int x4), some (.int x5)] (o.1.toList ++ []) o.2) else ((hs_C scr d 151 [.ref t0, .int x5, .ref t3, .int x2] (S, I, L, R)).bind fun o => hs_R scr (d + 1) 149 102 [some (.ref t0), some (.int x1), some (.int x2), some (.ref t3), some (.int x4), some (.int x5)] (o.1.toList ++ []) o.2)) := Eq.trans (r_il d149_79 rfl) (Eq.trans (r_al_n d149_81 rfl) (Eq.trans (r_getRe d149_82 f149_60 o_t0.2.1 e_t0_8 o_t0_8.1) (Eq.trans (r_getRe d149_85 f149_164 o_t0_8.2.1 (o_t0_8.2.2.2.2.1) (Nat.le_trans o_t0_8.1 (Nat.le_add_right _ _))) (Eq.trans (r_getI d149_88 f149_168 (o_t0_8.2.2.2.2.2.1).2.1) (Eq.trans (r_cge d149_91 rfl) (q_ite (Eq.trans (r_al_n d149_120 rfl) (Eq.trans (r_il d149_121 rfl) (r_cvE (as := [.int x4]) (r := []) d149_123 c149_173 ow68 o_t0.2.1 np68.symm rfl (hs_fitE mL68 (Nat.le_of_ble_eq_true rfl))))) (Eq.trans (r_al_n d149_94 rfl) (Eq.trans (r_il d149_95 rfl) (Eq.trans (r_al_n d149_97 rfl) (Eq.trans (r_il_n d149_98 rfl) (r_cvE (as := [.int x5, .ref t3, .int x2]) (r := []) d149_99 c149_337 ow151 o_t0.2.1 np151.symm rfl (hs_fitE mL151 (Nat.le_of_ble_eq_true rfl)))))))))))))
theorem b149_102 {t0 t3 : Nat} {x1 x2 x4 x5 s0 : Int32}  : hs_R scr d 149 102 [some (.ref t0), some (.int x1), some (.int x2), some (.ref t3), some (.int x4), some (.int x5)] [.int s0] (S, I, L, R) = (if s0 = 0 then hs_R scr d 149 114 [some (.ref t0), some (.int x1), some (.int x2), some (.ref t3), some (.int x4), some (.int x5)] [] (S, I, L, R) else hs_R scr d 149 114 [some (.ref t0), some (.int x1), some (.int x2), some (.ref t3), some (.int (x4 ||| ((1 : Int32) <<< (x5 &&& 31)))), some (.int x5)] [] (S, I, L, R)) := Eq.trans (r_zeq d149_102 rfl) (q_ite (rfl) (Eq.trans (r_il d149_105 rfl) (Eq.trans (r_ic d149_107 kI_1) (Eq.trans (r_il d149_108 rfl) (Eq.trans (r_ishl d149_110) (Eq.trans (r_ior d149_111) (Eq.trans (r_is (loc' := [some (.ref t0), some (.int x1), some (.int x2), some (.ref t3), some (.int (x4 ||| ((1 : Int32) <<< (x5 &&& 31)))), some (.int x5)]) d149_112 rfl) (rfl))))))))
theorem b149_114 {t0 t3 : Nat} {x1 x2 x4 x5 : Int32}  : hs_R scr d 149 114 [some (.ref t0), some (.int x1), some (.int x2), some (.ref t3), some (.int x4), some (.int x5)] [] (S, I, L, R) = hs_R scr d 149 79 [some (.ref t0), some (.int x1), some (.int x2), some (.ref t3), some (.int x4), some (.int (x5 + 1))] [] (S, I, L, R) := Eq.trans (r_inc (loc' := [some (.ref t0), some (.int x1), some (.int x2), some (.ref t3), some (.int x4), some (.int (x5 + 1))]) d149_114 kI_1 rfl rfl) (Eq.trans (r_goto d149_117 rfl) (rfl))
theorem b149_126 {t0 t3 : Nat} {x1 x2 x4 x5 s0 : Int32}  : hs_R scr d 149 126 [some (.ref t0), some (.int x1), some (.int x2), some (.ref t3), some (.int x4), some (.int x5)] [.int s0] (S, I, L, R) = some (some (.int s0), (S, I, L, R)) := r_ri d149_126 rt149
theorem e151 {t0 : Nat} {x1 : Int32} {t2 : Nat} {x3 : Int32} : hs_C scr d 151 [.ref t0, .int x1, .ref t2, .int x3] h = hs_R scr d 151 0 [some (.ref t0), some (.int x1), some (.ref t2), some (.int x3), none, none] [] h := by rw [hs_C, mL151]; rfl
theorem b151_0 {t0 t2 : Nat} {x1 x3 : Int32}  : hs_R scr d 151 0 [some (.ref t0), some (.int x1), some (.ref t2), some (.int x3), none, none] [] (S, I, L, R) = hs_R scr d 151 3 [some (.ref t0), some (.int x1), some (.ref t2), some (.int x3), some (.int 0), none] [] (S, I, L, R) := Eq.trans (r_ic d151_0 kI_0) (Eq.trans (r_is (loc' := [some (.ref t0), some (.int x1), some (.ref t2), some (.int x3), some (.int 0), none]) d151_1 rfl) (rfl))
theorem b151_3 {t0 t2 t0_8 : Nat} {x1 x3 x4 : Int32} {w5 : Option Value} (o_t2 : ok9 S R t2) (o_t0 : ok10 S R t0) (e_t0_8 : R t0 8 = t0_8) (o_t0_8 : ok4 S R t0_8) : hs_R scr (d + 1) 151 3 [some (.ref t0), some (.int x1), some (.ref t2), some (.int x3), some (.int x4), w5] [] (S, I, L, R) = (if x3 ≤ x4 then some (some (.int 1), (S, I, L, R)) else (if hs_ib ((2 : Int32) * x4) 60 = true then ((hs_C scr d 132 [.ref t0_8, .int x1, .int (Int64.toInt32 (L (t2 + 1) (Int32.toNatClampNeg ((2 : Int32) * x4))))] (S, I, L, R)).bind fun o => hs_R scr (d + 1) 151 31 [some (.ref t0), some (.int x1), some (.ref t2), some (.int x3), some (.int x4), some (.int (Int64.toInt32 (L (t2 + 1) (Int32.toNatClampNeg ((2 : Int32) * x4)))))] (o.1.toList ++ []) o.2) else none)) := Eq.trans (r_il d151_3 rfl) (Eq.trans (r_il_n d151_5 rfl) (Eq.trans (r_cge d151_6 rfl) (q_ite (Eq.trans (r_ic d151_55 kI_1) ((r_rz d151_56 rt151).trans (if_pos (Or.inr rfl)))) (Eq.trans (r_al_n d151_9 rfl) (Eq.trans (r_getRe d151_10 f151_124 o_t2.2.1 (o_t2.2.2.1) (Nat.le_trans o_t2.1 (Nat.le_add_right _ _))) (Eq.trans (r_ic d151_13 kI_2) (Eq.trans (r_il d151_14 rfl) (Eq.trans (r_imul d151_16) (Eq.trans (r_lald d151_17 (o_t2.2.2.2)) (q_ite (Eq.trans (r_l2i d151_18) (Eq.trans (r_is (loc' := [some (.ref t0), some (.int x1), some (.ref t2), some (.int x3), some (.int x4), some (.int (Int64.toInt32 (L (t2 + 1) (Int32.toNatClampNeg ((2 : Int32) * x4)))))]) d151_19 rfl) (Eq.trans (r_al_n d151_21 rfl) (Eq.trans (r_getRe d151_22 f151_60 o_t0.2.1 e_t0_8 o_t0_8.1) (Eq.trans (r_il_n d151_25 rfl) (Eq.trans (r_il d151_26 rfl) (r_cvE (as := [.int x1, .int (Int64.toInt32 (L (t2 + 1) (Int32.toNatClampNeg ((2 : Int32) * x4))))]) (r := []) d151_28 c151_299 ow132 o_t0_8.2.1 np132.symm rfl (hs_fitE mL132 (Nat.le_of_ble_eq_true rfl))))))))) rfl))))))))))
theorem b151_31 {t0 t2 : Nat} {x1 x3 x4 x5 s0 : Int32} (o_t2 : ok9 S R t2) : hs_R scr d 151 31 [some (.ref t0), some (.int x1), some (.ref t2), some (.int x3), some (.int x4), some (.int x5)] [.int s0] (S, I, L, R) = (if hs_ib (((2 : Int32) * x4) + 1) 60 = true then (if (lg_cmp (Int32.toInt64 s0) (L (t2 + 1) (Int32.toNatClampNeg (((2 : Int32) * x4) + 1)))) = 0 then hs_R scr d 151 3 [some (.ref t0), some (.int x1), some (.ref t2), some (.int x3), some (.int (x4 + 1)), some (.int x5)] [] (S, I, L, R) else some (some (.int 0), (S, I, L, R))) else none) := Eq.trans (r_i2l d151_31) (Eq.trans (r_al_n d151_32 rfl) (Eq.trans (r_getRe d151_33 f151_124 o_t2.2.1 (o_t2.2.2.1) (Nat.le_trans o_t2.1 (Nat.le_add_right _ _))) (Eq.trans (r_ic d151_36 kI_2) (Eq.trans (r_il d151_37 rfl) (Eq.trans (r_imul d151_39) (Eq.trans (r_ic d151_40 kI_1) (Eq.trans (r_iadd d151_41) (Eq.trans (r_lald d151_42 (o_t2.2.2.2)) (q_ite (Eq.trans (r_lcmp d151_43) (Eq.trans (r_zeq d151_44 rfl) (q_ite (Eq.trans (r_inc (loc' := [some (.ref t0), some (.int x1), some (.ref t2), some (.int x3), some (.int (x4 + 1)), some (.int x5)]) d151_49 kI_1 rfl rfl) (Eq.trans (r_goto d151_52 rfl) (rfl))) (Eq.trans (r_ic d151_47 kI_0) ((r_rz d151_48 rt151).trans (if_pos (Or.inl rfl))))))) rfl)))))))))
theorem e152 {t0 : Nat} : hs_C scr d 152 [.ref t0] h = hs_R scr d 152 0 [some (.ref t0), none] [] h := by rw [hs_C, mL152]; rfl
theorem b152_0 {t0 : Nat} (o_t0 : ok10 S R t0) : hs_R scr (d + 1) 152 0 [some (.ref t0), none] [] (S, I, L, R) = ((hs_C scr d 153 [.ref t0] (S, I, L, R)).bind fun o => hs_R scr (d + 1) 152 4 [some (.ref t0), none] (o.1.toList ++ []) o.2) := Eq.trans (r_al_n d152_0 rfl) (r_cvE (as := []) (r := []) d152_1 c152_341 ow153 o_t0.2.1 np153.symm rfl (hs_fitE mL153 (Nat.le_of_ble_eq_true rfl)))
theorem b152_4 {t0 : Nat} {s0 : Int32} (o_t0 : ok10 S R t0) : hs_R scr (d + 1) 152 4 [some (.ref t0), none] [.int s0] (S, I, L, R) = (if (0 : Int32) ≤ s0 then ((hs_C scr d 139 [.int s0] (S, I, L, R)).bind fun o => hs_R scr (d + 1) 152 23 [some (.ref t0), some (.int s0)] (o.1.toList ++ [.ref t0]) o.2) else ((hs_C scr d 28 [.ref t0, .int 8] (S, I, L, R)).bind fun o => hs_R scr (d + 1) 152 15 [some (.ref t0), some (.int s0)] (o.1.toList ++ []) o.2)) := Eq.trans (r_is_n (loc' := [some (.ref t0), some (.int s0)]) d152_4 rfl) (Eq.trans (r_il_n d152_5 rfl) (Eq.trans (r_zge d152_6 rfl) (q_ite (Eq.trans (r_al_n d152_18 rfl) (Eq.trans (r_il_n d152_19 rfl) (r_cs (as := [.int s0]) (r := [.ref t0]) d152_20 c152_317 np139.symm rfl (hs_fitE mL139 (Nat.le_of_ble_eq_true rfl))))) (Eq.trans (r_al_n d152_9 rfl) (Eq.trans (r_bp d152_10 kB_8) (r_cvE (as := [.int 8]) (r := []) d152_12 c152_120 ow28 o_t0.2.1 np28.symm rfl (hs_fitE mL28 (Nat.le_of_ble_eq_true rfl))))))))
theorem b152_15 {t0 : Nat} {x1 s0 : Int32}  : hs_R scr d 152 15 [some (.ref t0), some (.int x1)] [.int s0] (S, I, L, R) = hs_R scr d 152 26 [some (.ref t0), some (.int x1)] [.int s0] (S, I, L, R) := Eq.trans (r_goto d152_15 rfl) (rfl)
theorem b152_23 {t0 u0 : Nat} {x1 s1 : Int32} (o_u0 : ok10 S R u0) : hs_R scr (d + 1) 152 23 [some (.ref t0), some (.int x1)] [.int s1, .ref u0] (S, I, L, R) = ((hs_C scr d 68 [.ref u0, .int s1] (S, I, L, R)).bind fun o => hs_R scr (d + 1) 152 26 [some (.ref t0), some (.int x1)] (o.1.toList ++ []) o.2) := r_cvE (as := [.int s1]) (r := []) d152_23 c152_173 ow68 o_u0.2.1 np68.symm rfl (hs_fitE mL68 (Nat.le_of_ble_eq_true rfl))
theorem b152_26 {t0 : Nat} {x1 s0 : Int32}  : hs_R scr d 152 26 [some (.ref t0), some (.int x1)] [.int s0] (S, I, L, R) = some (some (.int s0), (S, I, L, R)) := r_ri d152_26 rt152
theorem e153 {t0 : Nat} : hs_C scr d 153 [.ref t0] h = hs_R scr d 153 0 [some (.ref t0), none, none, none, none, none, none] [] h := by rw [hs_C, mL153]; rfl
theorem b153_0 {t0 t0_8 : Nat} (o_t0 : ok10 S R t0) (e_t0_8 : R t0 8 = t0_8) (o_t0_8 : ok4 S R t0_8) : hs_R scr d 153 0 [some (.ref t0), none, none, none, none, none, none] [] (S, I, L, R) = hs_R scr d 153 31 [some (.ref t0), some (.int (((1 : Int32) <<< ((I t0_8 11) &&& 31)) - 1)), some (.int ((1 : Int32) <<< ((I t0_8 12) &&& 31))), some (.int 0), none, none, none] [] (S, (hs_u I (t0 + 15) 0 0), L, R) := Eq.trans (r_ic d153_0 kI_1) (Eq.trans (r_al_n d153_1 rfl) (Eq.trans (r_getRe d153_2 f153_60 o_t0.2.1 e_t0_8 o_t0_8.1) (Eq.trans (r_getI d153_5 f153_344 o_t0_8.2.1) (Eq.trans (r_ishl d153_8) (Eq.trans (r_ic d153_9 kI_1) (Eq.trans (r_isub d153_10) (Eq.trans (r_is_n (loc' := [some (.ref t0), some (.int (((1 : Int32) <<< ((I t0_8 11) &&& 31)) - 1)), none, none, none, none, none]) d153_11 rfl) (Eq.trans (r_ic d153_12 kI_1) (Eq.trans (r_al_n d153_13 rfl) (Eq.trans (r_getRe d153_14 f153_60 o_t0.2.1 e_t0_8 o_t0_8.1) (Eq.trans (r_getI d153_17 f153_238 o_t0_8.2.1) (Eq.trans (r_ishl d153_20) (Eq.trans (r_is_n (loc' := [some (.ref t0), some (.int (((1 : Int32) <<< ((I t0_8 11) &&& 31)) - 1)), some (.int ((1 : Int32) <<< ((I t0_8 12) &&& 31))), none, none, none, none]) d153_21 rfl) (Eq.trans (r_al_n d153_22 rfl) (Eq.trans (r_getRe d153_23 f153_55 o_t0.2.1 (o_t0.2.2.2.2.2.2.2.2.2.2.2.2.2.2.2.2.1) (Nat.le_trans o_t0.1 (Nat.le_add_right _ _))) (Eq.trans (r_ic d153_26 kI_0) (Eq.trans (r_ic d153_27 kI_0) (Eq.trans ((r_iastC d153_28 (o_t0.2.2.2.2.2.2.2.2.2.2.2.2.2.2.2.2.2.1) ib_0_1024 tn_0)) (Eq.trans (r_ic d153_29 kI_0) (Eq.trans (r_is_n (loc' := [some (.ref t0), some (.int (((1 : Int32) <<< ((I t0_8 11) &&& 31)) - 1)), some (.int ((1 : Int32) <<< ((I t0_8 12) &&& 31))), some (.int 0), none, none, none]) d153_30 rfl) (rfl)))))))))))))))))))))
theorem b153_31 {t0 t0_8 : Nat} {x1 x2 x3 : Int32} {w4 w5 w6 : Option Value} (o_t0 : ok10 S R t0) (e_t0_8 : R t0 8 = t0_8) (o_t0_8 : ok4 S R t0_8) : hs_R scr d 153 31 [some (.ref t0), some (.int x1), some (.int x2), some (.int x3), w4, w5, w6] [] (S, I, L, R) = (if (I t0_8 12) ≤ x3 then hs_R scr d 153 119 [some (.ref t0), some (.int x1), some (.int x2), some (.int (-1)), some (.int 0), w5, w6] [] (S, I, L, R) else (if hs_ib x3 10 = true then (if hs_ib x3 10 = true then hs_R scr d 153 75 [some (.ref t0), some (.int x1), some (.int x2), some (.int x3), some (.int ((1 : Int32) <<< (x3 &&& 31))), some (.int (((1 : Int32) <<< ((I (t0_8 + 14) (Int32.toNatClampNeg x3)) &&& 31)) ||| ((1 : Int32) <<< ((I (t0_8 + 15) (Int32.toNatClampNeg x3)) &&& 31)))), some (.int 0)] [] (S, I, L, R) else none) else none)) := Eq.trans (r_il_n d153_31 rfl) (Eq.trans (r_al_n d153_32 rfl) (Eq.trans (r_getRe d153_33 f153_60 o_t0.2.1 e_t0_8 o_t0_8.1) (Eq.trans (r_getI d153_36 f153_238 o_t0_8.2.1) (Eq.trans (r_cge d153_39 rfl) (q_ite (Eq.trans (r_ic d153_114 kI_m1) (Eq.trans (r_is_n (loc' := [some (.ref t0), some (.int x1), some (.int x2), some (.int (-1)), w4, w5, w6]) d153_115 rfl) (Eq.trans (r_ic d153_116 kI_0) (Eq.trans (r_is (loc' := [some (.ref t0), some (.int x1), some (.int x2), some (.int (-1)), some (.int 0), w5, w6]) d153_117 rfl) (rfl))))) (Eq.trans (r_ic d153_42 kI_1) (Eq.trans (r_il_n d153_43 rfl) (Eq.trans (r_ishl d153_44) (Eq.trans (r_is (loc' := [some (.ref t0), some (.int x1), some (.int x2), some (.int x3), some (.int ((1 : Int32) <<< (x3 &&& 31))), w5, w6]) d153_45 rfl) (Eq.trans (r_ic d153_47 kI_1) (Eq.trans (r_al_n d153_48 rfl) (Eq.trans (r_getRe d153_49 f153_60 o_t0.2.1 e_t0_8 o_t0_8.1) (Eq.trans (r_getRe d153_52 f153_241 o_t0_8.2.1 (o_t0_8.2.2.2.2.2.2.2.2.2.2.2.2.2.2.1) (Nat.le_trans o_t0_8.1 (Nat.le_add_right _ _))) (Eq.trans (r_il_n d153_55 rfl) (Eq.trans (r_iald d153_56 (o_t0_8.2.2.2.2.2.2.2.2.2.2.2.2.2.2.2.1)) (q_ite (Eq.trans (r_ishl d153_57) (Eq.trans (r_ic d153_58 kI_1) (Eq.trans (r_al_n d153_59 rfl) (Eq.trans (r_getRe d153_60 f153_60 o_t0.2.1 e_t0_8 o_t0_8.1) (Eq.trans (r_getRe d153_63 f153_244 o_t0_8.2.1 (o_t0_8.2.2.2.2.2.2.2.2.2.2.2.2.2.2.2.2.1) (Nat.le_trans o_t0_8.1 (Nat.le_add_right _ _))) (Eq.trans (r_il_n d153_66 rfl) (Eq.trans (r_iald d153_67 (o_t0_8.2.2.2.2.2.2.2.2.2.2.2.2.2.2.2.2.2)) (q_ite (Eq.trans (r_ishl d153_68) (Eq.trans (r_ior d153_69) (Eq.trans (r_is (loc' := [some (.ref t0), some (.int x1), some (.int x2), some (.int x3), some (.int ((1 : Int32) <<< (x3 &&& 31))), some (.int (((1 : Int32) <<< ((I (t0_8 + 14) (Int32.toNatClampNeg x3)) &&& 31)) ||| ((1 : Int32) <<< ((I (t0_8 + 15) (Int32.toNatClampNeg x3)) &&& 31)))), w6]) d153_70 rfl) (Eq.trans (r_ic d153_72 kI_0) (Eq.trans (r_is (loc' := [some (.ref t0), some (.int x1), some (.int x2), some (.int x3), some (.int ((1 : Int32) <<< (x3 &&& 31))), some (.int (((1 : Int32) <<< ((I (t0_8 + 14) (Int32.toNatClampNeg x3)) &&& 31)) ||| ((1 : Int32) <<< ((I (t0_8 + 15) (Int32.toNatClampNeg x3)) &&& 31)))), some (.int 0)]) d153_73 rfl) (rfl)))))) rfl)))))))) rfl))))))))))))))))
theorem b153_75 {t0 : Nat} {x1 x2 x3 x4 x5 x6 : Int32} (o_t0 : ok10 S R t0) : hs_R scr d 153 75 [some (.ref t0), some (.int x1), some (.int x2), some (.int x3), some (.int x4), some (.int x5), some (.int x6)] [] (S, I, L, R) = (if x4 ≤ x6 then hs_R scr d 153 31 [some (.ref t0), some (.int x1), some (.int x2), some (.int (x3 + 1)), some (.int x4), some (.int x5), some (.int x6)] [] (S, I, L, R) else (if hs_ib x6 1024 = true then (if hs_ib (x4 + x6) 1024 = true then hs_R scr d 153 75 [some (.ref t0), some (.int x1), some (.int x2), some (.int x3), some (.int x4), some (.int x5), some (.int (x6 + 1))] [] (S, (hs_u I (t0 + 15) (Int32.toNatClampNeg (x4 + x6)) ((I (t0 + 15) (Int32.toNatClampNeg x6)) ||| x5)), L, R) else none) else none)) := Eq.trans (r_il d153_75 rfl) (Eq.trans (r_il d153_77 rfl) (Eq.trans (r_cge d153_79 rfl) (q_ite (Eq.trans (r_inc (loc' := [some (.ref t0), some (.int x1), some (.int x2), some (.int (x3 + 1)), some (.int x4), some (.int x5), some (.int x6)]) d153_108 kI_1 rfl rfl) (Eq.trans (r_goto d153_111 rfl) (rfl))) (Eq.trans (r_al_n d153_82 rfl) (Eq.trans (r_getRe d153_83 f153_55 o_t0.2.1 (o_t0.2.2.2.2.2.2.2.2.2.2.2.2.2.2.2.2.1) (Nat.le_trans o_t0.1 (Nat.le_add_right _ _))) (Eq.trans (r_il d153_86 rfl) (Eq.trans (r_il d153_88 rfl) (Eq.trans (r_iadd d153_90) (Eq.trans (r_al_n d153_91 rfl) (Eq.trans (r_getRe d153_92 f153_55 o_t0.2.1 (o_t0.2.2.2.2.2.2.2.2.2.2.2.2.2.2.2.2.1) (Nat.le_trans o_t0.1 (Nat.le_add_right _ _))) (Eq.trans (r_il d153_95 rfl) (Eq.trans (r_iald d153_97 (o_t0.2.2.2.2.2.2.2.2.2.2.2.2.2.2.2.2.2.1)) (q_ite (Eq.trans (r_il d153_98 rfl) (Eq.trans (r_ior d153_100) (Eq.trans (r_iast d153_101 (o_t0.2.2.2.2.2.2.2.2.2.2.2.2.2.2.2.2.2.1)) (q_ite (Eq.trans (r_inc (loc' := [some (.ref t0), some (.int x1), some (.int x2), some (.int x3), some (.int x4), some (.int x5), some (.int (x6 + 1))]) d153_102 kI_1 rfl rfl) (Eq.trans (r_goto d153_105 rfl) (rfl))) rfl)))) rfl)))))))))))))
theorem b153_119 {t0 : Nat} {x1 x2 x3 x4 : Int32} {w5 w6 : Option Value} (o_t0 : ok10 S R t0) : hs_R scr (d + 1) 153 119 [some (.ref t0), some (.int x1), some (.int x2), some (.int x3), some (.int x4), w5, w6] [] (S, I, L, R) = (if x2 ≤ x4 then some (some (.int x3), (S, I, L, R)) else (if hs_ib x4 1024 = true then (if (I (t0 + 15) (Int32.toNatClampNeg x4)) = x1 then (if x3 < 0 then hs_R scr (d + 1) 153 152 [some (.ref t0), some (.int x1), some (.int x2), some (.int x3), some (.int x4), w5, w6] [] (S, I, L, R) else ((hs_C scr d 139 [.int x4] (S, I, L, R)).bind fun o => hs_R scr (d + 1) 153 145 [some (.ref t0), some (.int x1), some (.int x2), some (.int x3), some (.int x4), w5, w6] (o.1.toList ++ []) o.2)) else hs_R scr (d + 1) 153 155 [some (.ref t0), some (.int x1), some (.int x2), some (.int x3), some (.int x4), w5, w6] [] (S, I, L, R)) else none)) := Eq.trans (r_il d153_119 rfl) (Eq.trans (r_il_n d153_121 rfl) (Eq.trans (r_cge d153_122 rfl) (q_ite (Eq.trans (r_il_n d153_161 rfl) (r_ri d153_162 rt153)) (Eq.trans (r_al_n d153_125 rfl) (Eq.trans (r_getRe d153_126 f153_55 o_t0.2.1 (o_t0.2.2.2.2.2.2.2.2.2.2.2.2.2.2.2.2.1) (Nat.le_trans o_t0.1 (Nat.le_add_right _ _))) (Eq.trans (r_il d153_129 rfl) (Eq.trans (r_iald d153_131 (o_t0.2.2.2.2.2.2.2.2.2.2.2.2.2.2.2.2.2.1)) (q_ite (Eq.trans (r_il_n d153_132 rfl) (Eq.trans (r_cne d153_133 rfl) (q_ite (Eq.trans (r_il_n d153_136 rfl) (Eq.trans (r_zlt d153_137 rfl) (q_ite (rfl) (Eq.trans (r_il d153_140 rfl) (r_cs (as := [.int x4]) (r := []) d153_142 c153_317 np139.symm rfl (hs_fitE mL139 (Nat.le_of_ble_eq_true rfl))))))) (rfl)))) rfl))))))))
theorem b153_145 {t0 : Nat} {x1 x2 x3 x4 s0 : Int32} {w5 w6 : Option Value}  : hs_R scr (d + 1) 153 145 [some (.ref t0), some (.int x1), some (.int x2), some (.int x3), some (.int x4), w5, w6] [.int s0] (S, I, L, R) = ((hs_C scr d 139 [.int x3] (S, I, L, R)).bind fun o => hs_R scr (d + 1) 153 149 [some (.ref t0), some (.int x1), some (.int x2), some (.int x3), some (.int x4), w5, w6] (o.1.toList ++ [.int s0]) o.2) := Eq.trans (r_il_n d153_145 rfl) (r_cs (as := [.int x3]) (r := [.int s0]) d153_146 c153_317 np139.symm rfl (hs_fitE mL139 (Nat.le_of_ble_eq_true rfl)))
theorem b153_149 {t0 : Nat} {x1 x2 x3 x4 s0 s1 : Int32} {w5 w6 : Option Value}  : hs_R scr d 153 149 [some (.ref t0), some (.int x1), some (.int x2), some (.int x3), some (.int x4), w5, w6] [.int s1, .int s0] (S, I, L, R) = (if s1 ≤ s0 then hs_R scr d 153 155 [some (.ref t0), some (.int x1), some (.int x2), some (.int x3), some (.int x4), w5, w6] [] (S, I, L, R) else hs_R scr d 153 152 [some (.ref t0), some (.int x1), some (.int x2), some (.int x3), some (.int x4), w5, w6] [] (S, I, L, R)) := Eq.trans (r_cge d153_149 rfl) (q_ite (rfl) (rfl))
theorem b153_152 {t0 : Nat} {x1 x2 x3 x4 : Int32} {w5 w6 : Option Value}  : hs_R scr d 153 152 [some (.ref t0), some (.int x1), some (.int x2), some (.int x3), some (.int x4), w5, w6] [] (S, I, L, R) = hs_R scr d 153 155 [some (.ref t0), some (.int x1), some (.int x2), some (.int x4), some (.int x4), w5, w6] [] (S, I, L, R) := Eq.trans (r_il d153_152 rfl) (Eq.trans (r_is_n (loc' := [some (.ref t0), some (.int x1), some (.int x2), some (.int x4), some (.int x4), w5, w6]) d153_154 rfl) (rfl))
theorem b153_155 {t0 : Nat} {x1 x2 x3 x4 : Int32} {w5 w6 : Option Value}  : hs_R scr d 153 155 [some (.ref t0), some (.int x1), some (.int x2), some (.int x3), some (.int x4), w5, w6] [] (S, I, L, R) = hs_R scr d 153 119 [some (.ref t0), some (.int x1), some (.int x2), some (.int x3), some (.int (x4 + 1)), w5, w6] [] (S, I, L, R) := Eq.trans (r_inc (loc' := [some (.ref t0), some (.int x1), some (.int x2), some (.int x3), some (.int (x4 + 1)), w5, w6]) d153_155 kI_1 rfl rfl) (Eq.trans (r_goto d153_158 rfl) (rfl))
theorem e154 {t0 : Nat} : hs_C scr d 154 [.ref t0] h = hs_R scr d 154 0 [some (.ref t0), none] [] h := by rw [hs_C, mL154]; rfl
theorem b154_0 {t0 : Nat} (o_t0 : ok10 S R t0) : hs_R scr (d + 1) 154 0 [some (.ref t0), none] [] (S, I, L, R) = ((hs_C scr d 153 [.ref t0] (S, I, L, R)).bind fun o => hs_R scr (d + 1) 154 4 [some (.ref t0), none] (o.1.toList ++ []) o.2) := Eq.trans (r_al_n d154_0 rfl) (r_cvE (as := []) (r := []) d154_1 c154_341 ow153 o_t0.2.1 np153.symm rfl (hs_fitE mL153 (Nat.le_of_ble_eq_true rfl)))
theorem b154_4 {t0 : Nat} {s0 : Int32} (o_t0 : ok10 S R t0) : hs_R scr (d + 1) 154 4 [some (.ref t0), none] [.int s0] (S, I, L, R) = (if (0 : Int32) ≤ s0 then ((hs_C scr d 68 [.ref t0, .int s0] (S, I, L, R)).bind fun o => hs_R scr (d + 1) 154 23 [some (.ref t0), some (.int s0)] (o.1.toList ++ []) o.2) else ((hs_C scr d 28 [.ref t0, .int 8] (S, I, L, R)).bind fun o => hs_R scr (d + 1) 154 15 [some (.ref t0), some (.int s0)] (o.1.toList ++ []) o.2)) := Eq.trans (r_is_n (loc' := [some (.ref t0), some (.int s0)]) d154_4 rfl) (Eq.trans (r_il_n d154_5 rfl) (Eq.trans (r_zge d154_6 rfl) (q_ite (Eq.trans (r_al_n d154_18 rfl) (Eq.trans (r_il_n d154_19 rfl) (r_cvE (as := [.int s0]) (r := []) d154_20 c154_173 ow68 o_t0.2.1 np68.symm rfl (hs_fitE mL68 (Nat.le_of_ble_eq_true rfl))))) (Eq.trans (r_al_n d154_9 rfl) (Eq.trans (r_bp d154_10 kB_8) (r_cvE (as := [.int 8]) (r := []) d154_12 c154_120 ow28 o_t0.2.1 np28.symm rfl (hs_fitE mL28 (Nat.le_of_ble_eq_true rfl))))))))
theorem b154_15 {t0 : Nat} {x1 s0 : Int32}  : hs_R scr d 154 15 [some (.ref t0), some (.int x1)] [.int s0] (S, I, L, R) = hs_R scr d 154 23 [some (.ref t0), some (.int x1)] [.int s0] (S, I, L, R) := Eq.trans (r_goto d154_15 rfl) (rfl)
theorem b154_23 {t0 : Nat} {x1 s0 : Int32}  : hs_R scr d 154 23 [some (.ref t0), some (.int x1)] [.int s0] (S, I, L, R) = some (some (.int s0), (S, I, L, R)) := r_ri d154_23 rt154
end BB

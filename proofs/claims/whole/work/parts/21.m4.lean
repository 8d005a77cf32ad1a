/-! blocks: written by gen/mkblocks.py -/
theorem c196_75 : hs_cal (hs_own 196) 75 = some (0, 197) := by decide +kernel
theorem c198_83 : hs_cal (hs_own 198) 83 = some (0, 199) := by decide +kernel
theorem c198_87 : hs_cal (hs_own 198) 87 = some (1, 201) := by decide +kernel
theorem c199_79 : hs_cal (hs_own 199) 79 = some (0, 200) := by decide +kernel
theorem c202_83 : hs_cal (hs_own 202) 83 = some (0, 199) := by decide +kernel
theorem c203_75 : hs_cal (hs_own 203) 75 = some (0, 197) := by decide +kernel
theorem c204_230 : hs_cal (hs_own 204) 230 = some (0, 205) := by decide +kernel
theorem c207_56 : hs_cal (hs_own 207) 56 = some (0, 192) := by decide +kernel
theorem c207_220 : hs_cal (hs_own 207) 220 = some (0, 248) := by decide +kernel
theorem c207_290 : hs_cal (hs_own 207) 290 = some (0, 208) := by decide +kernel
theorem c207_293 : hs_cal (hs_own 207) 293 = some (0, 214) := by decide +kernel
theorem c207_296 : hs_cal (hs_own 207) 296 = some (0, 257) := by decide +kernel
theorem c207_299 : hs_cal (hs_own 207) 299 = some (0, 258) := by decide +kernel
theorem c207_302 : hs_cal (hs_own 207) 302 = some (0, 259) := by decide +kernel
theorem c208_75 : hs_cal (hs_own 208) 75 = some (0, 197) := by decide +kernel
theorem c208_214 : hs_cal (hs_own 208) 214 = some (0, 209) := by decide +kernel
theorem c209_112 : hs_cal (hs_own 209) 112 = some (0, 210) := by decide +kernel
theorem c209_118 : hs_cal (hs_own 209) 118 = some (1, 211) := by decide +kernel
theorem c209_131 : hs_cal (hs_own 209) 131 = some (1, 212) := by decide +kernel
theorem c209_137 : hs_cal (hs_own 209) 137 = some (0, 213) := by decide +kernel
theorem c214_156 : hs_cal (hs_own 214) 156 = some (0, 215) := by decide +kernel
theorem c214_159 : hs_cal (hs_own 214) 159 = some (0, 224) := by decide +kernel
theorem c214_162 : hs_cal (hs_own 214) 162 = some (0, 225) := by decide +kernel
theorem c214_168 : hs_cal (hs_own 214) 168 = some (0, 231) := by decide +kernel
theorem c214_177 : hs_cal (hs_own 214) 177 = some (0, 234) := by decide +kernel
theorem c214_183 : hs_cal (hs_own 214) 183 = some (0, 236) := by decide +kernel
theorem c214_186 : hs_cal (hs_own 214) 186 = some (0, 237) := by decide +kernel
theorem c214_189 : hs_cal (hs_own 214) 189 = some (0, 238) := by decide +kernel
theorem c214_217 : hs_cal (hs_own 214) 217 = some (0, 222) := by decide +kernel
theorem c214_268 : hs_cal (hs_own 214) 268 = some (0, 218) := by decide +kernel
theorem c214_272 : hs_cal (hs_own 214) 272 = some (0, 226) := by decide +kernel
theorem c214_275 : hs_cal (hs_own 214) 275 = some (0, 250) := by decide +kernel
theorem c214_278 : hs_cal (hs_own 214) 278 = some (0, 251) := by decide +kernel
theorem c214_281 : hs_cal (hs_own 214) 281 = some (0, 252) := by decide +kernel
theorem c214_284 : hs_cal (hs_own 214) 284 = some (0, 253) := by decide +kernel
theorem c214_287 : hs_cal (hs_own 214) 287 = some (0, 254) := by decide +kernel
theorem c215_140 : hs_cal (hs_own 215) 140 = some (1, 216) := by decide +kernel
theorem c215_144 : hs_cal (hs_own 215) 144 = some (0, 217) := by decide +kernel
theorem c218_99 : hs_cal (hs_own 218) 99 = some (1, 219) := by decide +kernel
theorem c218_210 : hs_cal (hs_own 218) 210 = some (0, 220) := by decide +kernel
theorem c218_214 : hs_cal (hs_own 218) 214 = some (0, 209) := by decide +kernel
theorem c218_224 : hs_cal (hs_own 218) 224 = some (0, 221) := by decide +kernel
theorem c221_95 : hs_cal (hs_own 221) 95 = some (1, 223) := by decide +kernel
theorem c221_210 : hs_cal (hs_own 221) 210 = some (0, 220) := by decide +kernel
theorem c221_214 : hs_cal (hs_own 221) 214 = some (0, 209) := by decide +kernel
theorem c221_217 : hs_cal (hs_own 221) 217 = some (0, 222) := by decide +kernel
theorem c222_210 : hs_cal (hs_own 222) 210 = some (0, 220) := by decide +kernel
theorem c224_140 : hs_cal (hs_own 224) 140 = some (1, 216) := by decide +kernel
theorem c224_144 : hs_cal (hs_own 224) 144 = some (0, 217) := by decide +kernel
theorem c225_140 : hs_cal (hs_own 225) 140 = some (1, 216) := by decide +kernel
theorem c225_144 : hs_cal (hs_own 225) 144 = some (0, 217) := by decide +kernel
theorem c226_148 : hs_cal (hs_own 226) 148 = some (0, 242) := by decide +kernel
theorem c226_165 : hs_cal (hs_own 226) 165 = some (0, 230) := by decide +kernel
theorem c226_192 : hs_cal (hs_own 226) 192 = some (0, 239) := by decide +kernel
theorem c226_214 : hs_cal (hs_own 226) 214 = some (0, 209) := by decide +kernel
theorem c226_224 : hs_cal (hs_own 226) 224 = some (0, 221) := by decide +kernel
theorem c226_254 : hs_cal (hs_own 226) 254 = some (0, 227) := by decide +kernel
theorem c226_257 : hs_cal (hs_own 226) 257 = some (0, 247) := by decide +kernel
theorem c226_261 : hs_cal (hs_own 226) 261 = some (0, 249) := by decide +kernel
theorem c227_210 : hs_cal (hs_own 227) 210 = some (0, 220) := by decide +kernel
theorem c227_214 : hs_cal (hs_own 227) 214 = some (0, 209) := by decide +kernel
theorem c227_217 : hs_cal (hs_own 227) 217 = some (0, 222) := by decide +kernel
theorem c227_233 : hs_cal (hs_own 227) 233 = some (1, 246) := by decide +kernel
theorem c227_239 : hs_cal (hs_own 227) 239 = some (0, 228) := by decide +kernel
theorem c227_242 : hs_cal (hs_own 227) 242 = some (0, 244) := by decide +kernel
theorem c228_201 : hs_cal (hs_own 228) 201 = some (0, 229) := by decide +kernel
theorem c229_152 : hs_cal (hs_own 229) 152 = some (0, 240) := by decide +kernel
theorem c229_156 : hs_cal (hs_own 229) 156 = some (0, 215) := by decide +kernel
theorem c229_159 : hs_cal (hs_own 229) 159 = some (0, 224) := by decide +kernel
theorem c229_162 : hs_cal (hs_own 229) 162 = some (0, 225) := by decide +kernel
theorem c229_165 : hs_cal (hs_own 229) 165 = some (0, 230) := by decide +kernel
theorem c229_168 : hs_cal (hs_own 229) 168 = some (0, 231) := by decide +kernel
theorem c229_171 : hs_cal (hs_own 229) 171 = some (0, 232) := by decide +kernel
theorem c229_174 : hs_cal (hs_own 229) 174 = some (0, 233) := by decide +kernel
theorem c229_177 : hs_cal (hs_own 229) 177 = some (0, 234) := by decide +kernel
theorem c229_180 : hs_cal (hs_own 229) 180 = some (0, 235) := by decide +kernel
theorem c229_183 : hs_cal (hs_own 229) 183 = some (0, 236) := by decide +kernel
theorem c229_186 : hs_cal (hs_own 229) 186 = some (0, 237) := by decide +kernel
theorem c229_189 : hs_cal (hs_own 229) 189 = some (0, 238) := by decide +kernel
theorem c229_192 : hs_cal (hs_own 229) 192 = some (0, 239) := by decide +kernel
theorem c229_195 : hs_cal (hs_own 229) 195 = some (0, 241) := by decide +kernel
theorem c229_198 : hs_cal (hs_own 229) 198 = some (0, 243) := by decide +kernel
theorem c230_140 : hs_cal (hs_own 230) 140 = some (1, 216) := by decide +kernel
theorem c230_144 : hs_cal (hs_own 230) 144 = some (0, 217) := by decide +kernel
theorem c231_140 : hs_cal (hs_own 231) 140 = some (1, 216) := by decide +kernel
theorem c231_144 : hs_cal (hs_own 231) 144 = some (0, 217) := by decide +kernel
theorem c232_140 : hs_cal (hs_own 232) 140 = some (1, 216) := by decide +kernel
theorem c232_144 : hs_cal (hs_own 232) 144 = some (0, 217) := by decide +kernel
theorem c233_140 : hs_cal (hs_own 233) 140 = some (1, 216) := by decide +kernel
theorem c233_144 : hs_cal (hs_own 233) 144 = some (0, 217) := by decide +kernel
theorem c234_140 : hs_cal (hs_own 234) 140 = some (1, 216) := by decide +kernel
theorem c234_144 : hs_cal (hs_own 234) 144 = some (0, 217) := by decide +kernel
theorem c235_140 : hs_cal (hs_own 235) 140 = some (1, 216) := by decide +kernel
theorem c235_144 : hs_cal (hs_own 235) 144 = some (0, 217) := by decide +kernel
theorem c236_140 : hs_cal (hs_own 236) 140 = some (1, 216) := by decide +kernel
theorem c236_144 : hs_cal (hs_own 236) 144 = some (0, 217) := by decide +kernel
theorem c237_140 : hs_cal (hs_own 237) 140 = some (1, 216) := by decide +kernel
theorem c237_144 : hs_cal (hs_own 237) 144 = some (0, 217) := by decide +kernel
theorem c238_140 : hs_cal (hs_own 238) 140 = some (1, 216) := by decide +kernel
theorem c238_144 : hs_cal (hs_own 238) 144 = some (0, 217) := by decide +kernel
theorem c239_140 : hs_cal (hs_own 239) 140 = some (1, 216) := by decide +kernel
theorem c239_144 : hs_cal (hs_own 239) 144 = some (0, 217) := by decide +kernel
theorem c240_140 : hs_cal (hs_own 240) 140 = some (1, 216) := by decide +kernel
theorem c240_144 : hs_cal (hs_own 240) 144 = some (0, 217) := by decide +kernel
theorem c241_140 : hs_cal (hs_own 241) 140 = some (1, 216) := by decide +kernel
theorem c241_144 : hs_cal (hs_own 241) 144 = some (0, 217) := by decide +kernel
theorem c241_148 : hs_cal (hs_own 241) 148 = some (0, 242) := by decide +kernel
theorem c241_152 : hs_cal (hs_own 241) 152 = some (0, 240) := by decide +kernel
theorem c242_140 : hs_cal (hs_own 242) 140 = some (1, 216) := by decide +kernel
theorem c242_144 : hs_cal (hs_own 242) 144 = some (0, 217) := by decide +kernel
theorem c243_140 : hs_cal (hs_own 243) 140 = some (1, 216) := by decide +kernel
theorem c243_144 : hs_cal (hs_own 243) 144 = some (0, 217) := by decide +kernel
theorem c244_236 : hs_cal (hs_own 244) 236 = some (0, 245) := by decide +kernel
theorem c245_233 : hs_cal (hs_own 245) 233 = some (1, 246) := by decide +kernel
theorem c247_220 : hs_cal (hs_own 247) 220 = some (0, 248) := by decide +kernel
theorem c247_224 : hs_cal (hs_own 247) 224 = some (0, 221) := by decide +kernel
theorem c248_214 : hs_cal (hs_own 248) 214 = some (0, 209) := by decide +kernel
theorem c248_217 : hs_cal (hs_own 248) 217 = some (0, 222) := by decide +kernel
theorem c249_214 : hs_cal (hs_own 249) 214 = some (0, 209) := by decide +kernel
theorem c250_171 : hs_cal (hs_own 250) 171 = some (0, 232) := by decide +kernel
theorem c250_174 : hs_cal (hs_own 250) 174 = some (0, 233) := by decide +kernel
theorem c250_254 : hs_cal (hs_own 250) 254 = some (0, 227) := by decide +kernel
theorem c250_257 : hs_cal (hs_own 250) 257 = some (0, 247) := by decide +kernel
theorem c251_180 : hs_cal (hs_own 251) 180 = some (0, 235) := by decide +kernel
theorem c251_254 : hs_cal (hs_own 251) 254 = some (0, 227) := by decide +kernel
theorem c251_257 : hs_cal (hs_own 251) 257 = some (0, 247) := by decide +kernel
theorem c252_192 : hs_cal (hs_own 252) 192 = some (0, 239) := by decide +kernel
theorem c252_210 : hs_cal (hs_own 252) 210 = some (0, 220) := by decide +kernel
theorem c252_214 : hs_cal (hs_own 252) 214 = some (0, 209) := by decide +kernel
theorem c252_254 : hs_cal (hs_own 252) 254 = some (0, 227) := by decide +kernel
theorem cl202_91 : hs_kL (hs_own 202) 91 = some (-1) := by decide +kernel
theorem cl209_91 : hs_kL (hs_own 209) 91 = some (-1) := by decide +kernel
theorem cl209_124 : hs_kL (hs_own 209) 124 = some 32 := by decide +kernel
theorem cl209_126 : hs_kL (hs_own 209) 126 = some 96 := by decide +kernel
theorem cl216_124 : hs_kL (hs_own 216) 124 = some 32 := by decide +kernel
theorem cl216_126 : hs_kL (hs_own 216) 126 = some 96 := by decide +kernel
theorem d192_0 : decode (hs_code 192) 0 = .ok (.sipush 399, 3) := by decide +kernel
theorem d192_3 : decode (hs_code 192) 3 = .ok (.iload_n 1, 1) := by decide +kernel
theorem d192_4 : decode (hs_code 192) 4 = .ok (.imul, 1) := by decide +kernel
theorem d192_5 : decode (hs_code 192) 5 = .ok (.istore_n 2, 1) := by decide +kernel
theorem d192_6 : decode (hs_code 192) 6 = .ok (.iconst 0, 1) := by decide +kernel
theorem d192_7 : decode (hs_code 192) 7 = .ok (.istore_n 3, 1) := by decide +kernel
theorem d192_8 : decode (hs_code 192) 8 = .ok (.iload_n 3, 1) := by decide +kernel
theorem d192_9 : decode (hs_code 192) 9 = .ok (.sipush 399, 3) := by decide +kernel
theorem d192_12 : decode (hs_code 192) 12 = .ok (.if_icmp .ge 18, 3) := by decide +kernel
theorem d192_15 : decode (hs_code 192) 15 = .ok (.aload_n 0, 1) := by decide +kernel
theorem d192_16 : decode (hs_code 192) 16 = .ok (.getfield 35, 3) := by decide +kernel
theorem d192_19 : decode (hs_code 192) 19 = .ok (.iload_n 2, 1) := by decide +kernel
theorem d192_20 : decode (hs_code 192) 20 = .ok (.iload_n 3, 1) := by decide +kernel
theorem d192_21 : decode (hs_code 192) 21 = .ok (.iadd, 1) := by decide +kernel
theorem d192_22 : decode (hs_code 192) 22 = .ok (.iconst 0, 1) := by decide +kernel
theorem d192_23 : decode (hs_code 192) 23 = .ok (.iastore, 1) := by decide +kernel
theorem d192_24 : decode (hs_code 192) 24 = .ok (.iinc 3 1, 3) := by decide +kernel
theorem d192_27 : decode (hs_code 192) 27 = .ok (.goto (-19), 3) := by decide +kernel
theorem d192_30 : decode (hs_code 192) 30 = .ok (.aload_n 0, 1) := by decide +kernel
theorem d192_31 : decode (hs_code 192) 31 = .ok (.getfield 35, 3) := by decide +kernel
theorem d192_34 : decode (hs_code 192) 34 = .ok (.iload_n 2, 1) := by decide +kernel
theorem d192_35 : decode (hs_code 192) 35 = .ok (.bipush 6, 2) := by decide +kernel
theorem d192_37 : decode (hs_code 192) 37 = .ok (.iadd, 1) := by decide +kernel
theorem d192_38 : decode (hs_code 192) 38 = .ok (.iconst 2, 1) := by decide +kernel
theorem d192_39 : decode (hs_code 192) 39 = .ok (.iastore, 1) := by decide +kernel
theorem d192_40 : decode (hs_code 192) 40 = .ok (.aload_n 0, 1) := by decide +kernel
theorem d192_41 : decode (hs_code 192) 41 = .ok (.getfield 35, 3) := by decide +kernel
theorem d192_44 : decode (hs_code 192) 44 = .ok (.iload_n 2, 1) := by decide +kernel
theorem d192_45 : decode (hs_code 192) 45 = .ok (.bipush 7, 2) := by decide +kernel
theorem d192_47 : decode (hs_code 192) 47 = .ok (.iadd, 1) := by decide +kernel
theorem d192_48 : decode (hs_code 192) 48 = .ok (.bipush 20, 2) := by decide +kernel
theorem d192_50 : decode (hs_code 192) 50 = .ok (.iastore, 1) := by decide +kernel
theorem d192_51 : decode (hs_code 192) 51 = .ok (.aload_n 0, 1) := by decide +kernel
theorem d192_52 : decode (hs_code 192) 52 = .ok (.getfield 35, 3) := by decide +kernel
theorem d192_55 : decode (hs_code 192) 55 = .ok (.iload_n 2, 1) := by decide +kernel
theorem d192_56 : decode (hs_code 192) 56 = .ok (.bipush 9, 2) := by decide +kernel
theorem d192_58 : decode (hs_code 192) 58 = .ok (.iadd, 1) := by decide +kernel
theorem d192_59 : decode (hs_code 192) 59 = .ok (.iconst 1, 1) := by decide +kernel
theorem d192_60 : decode (hs_code 192) 60 = .ok (.iastore, 1) := by decide +kernel
theorem d192_61 : decode (hs_code 192) 61 = .ok (.return_, 1) := by decide +kernel
theorem d193_0 : decode (hs_code 193) 0 = .ok (.aload_n 0, 1) := by decide +kernel
theorem d193_1 : decode (hs_code 193) 1 = .ok (.iconst 0, 1) := by decide +kernel
theorem d193_2 : decode (hs_code 193) 2 = .ok (.putfield 60, 3) := by decide +kernel
theorem d193_5 : decode (hs_code 193) 5 = .ok (.aload_n 0, 1) := by decide +kernel
theorem d193_6 : decode (hs_code 193) 6 = .ok (.getfield 63, 3) := by decide +kernel
theorem d193_9 : decode (hs_code 193) 9 = .ok (.ireturn, 1) := by decide +kernel
theorem d194_0 : decode (hs_code 194) 0 = .ok (.aload_n 0, 1) := by decide +kernel
theorem d194_1 : decode (hs_code 194) 1 = .ok (.iconst 0, 1) := by decide +kernel
theorem d194_2 : decode (hs_code 194) 2 = .ok (.putfield 60, 3) := by decide +kernel
theorem d194_5 : decode (hs_code 194) 5 = .ok (.aload_n 0, 1) := by decide +kernel
theorem d194_6 : decode (hs_code 194) 6 = .ok (.getfield 66, 3) := by decide +kernel
theorem d194_9 : decode (hs_code 194) 9 = .ok (.lreturn, 1) := by decide +kernel
theorem d195_0 : decode (hs_code 195) 0 = .ok (.aload_n 0, 1) := by decide +kernel
theorem d195_1 : decode (hs_code 195) 1 = .ok (.iconst 0, 1) := by decide +kernel
theorem d195_2 : decode (hs_code 195) 2 = .ok (.putfield 60, 3) := by decide +kernel
theorem d195_5 : decode (hs_code 195) 5 = .ok (.aload_n 0, 1) := by decide +kernel
theorem d195_6 : decode (hs_code 195) 6 = .ok (.getfield 7, 3) := by decide +kernel
theorem d195_9 : decode (hs_code 195) 9 = .ok (.lreturn, 1) := by decide +kernel
theorem d196_0 : decode (hs_code 196) 0 = .ok (.aload_n 0, 1) := by decide +kernel
theorem d196_1 : decode (hs_code 196) 1 = .ok (.iconst 0, 1) := by decide +kernel
theorem d196_2 : decode (hs_code 196) 2 = .ok (.putfield 60, 3) := by decide +kernel
theorem d196_5 : decode (hs_code 196) 5 = .ok (.aload_n 0, 1) := by decide +kernel
theorem d196_6 : decode (hs_code 196) 6 = .ok (.iconst 0, 1) := by decide +kernel
theorem d196_7 : decode (hs_code 196) 7 = .ok (.putfield 63, 3) := by decide +kernel
theorem d196_10 : decode (hs_code 196) 10 = .ok (.iload_n 1, 1) := by decide +kernel
theorem d196_11 : decode (hs_code 196) 11 = .ok (.ifCond .lt 17, 3) := by decide +kernel
theorem d196_14 : decode (hs_code 196) 14 = .ok (.iload_n 1, 1) := by decide +kernel
theorem d196_15 : decode (hs_code 196) 15 = .ok (.iconst 4, 1) := by decide +kernel
theorem d196_16 : decode (hs_code 196) 16 = .ok (.if_icmp .ge 12, 3) := by decide +kernel
theorem d196_19 : decode (hs_code 196) 19 = .ok (.iload_n 2, 1) := by decide +kernel
theorem d196_20 : decode (hs_code 196) 20 = .ok (.ifCond .lt 8, 3) := by decide +kernel
theorem d196_23 : decode (hs_code 196) 23 = .ok (.iload_n 2, 1) := by decide +kernel
theorem d196_24 : decode (hs_code 196) 24 = .ok (.iconst 3, 1) := by decide +kernel
theorem d196_25 : decode (hs_code 196) 25 = .ok (.if_icmp .le 9, 3) := by decide +kernel
theorem d196_28 : decode (hs_code 196) 28 = .ok (.aload_n 0, 1) := by decide +kernel
theorem d196_29 : decode (hs_code 196) 29 = .ok (.iconst 1, 1) := by decide +kernel
theorem d196_30 : decode (hs_code 196) 30 = .ok (.invokevirtual 75, 3) := by decide +kernel
theorem d196_33 : decode (hs_code 196) 33 = .ok (.ireturn, 1) := by decide +kernel
theorem d196_34 : decode (hs_code 196) 34 = .ok (.iload_n 3, 1) := by decide +kernel
theorem d196_35 : decode (hs_code 196) 35 = .ok (.bipush 60, 2) := by decide +kernel
theorem d196_37 : decode (hs_code 196) 37 = .ok (.if_icmp .le 9, 3) := by decide +kernel
theorem d196_40 : decode (hs_code 196) 40 = .ok (.aload_n 0, 1) := by decide +kernel
theorem d196_41 : decode (hs_code 196) 41 = .ok (.iconst 5, 1) := by decide +kernel
theorem d196_42 : decode (hs_code 196) 42 = .ok (.invokevirtual 75, 3) := by decide +kernel
theorem d196_45 : decode (hs_code 196) 45 = .ok (.ireturn, 1) := by decide +kernel
theorem d196_46 : decode (hs_code 196) 46 = .ok (.iload_n 3, 1) := by decide +kernel
theorem d196_47 : decode (hs_code 196) 47 = .ok (.ifCond .ge 10, 3) := by decide +kernel
theorem d196_50 : decode (hs_code 196) 50 = .ok (.aload_n 0, 1) := by decide +kernel
theorem d196_51 : decode (hs_code 196) 51 = .ok (.bipush 6, 2) := by decide +kernel
theorem d196_53 : decode (hs_code 196) 53 = .ok (.invokevirtual 75, 3) := by decide +kernel
theorem d196_56 : decode (hs_code 196) 56 = .ok (.ireturn, 1) := by decide +kernel
theorem d196_57 : decode (hs_code 196) 57 = .ok (.aload_n 0, 1) := by decide +kernel
theorem d196_58 : decode (hs_code 196) 58 = .ok (.getfield 13, 3) := by decide +kernel
theorem d196_61 : decode (hs_code 196) 61 = .ok (.iload_n 1, 1) := by decide +kernel
theorem d196_62 : decode (hs_code 196) 62 = .ok (.iload_n 2, 1) := by decide +kernel
theorem d196_63 : decode (hs_code 196) 63 = .ok (.iastore, 1) := by decide +kernel
theorem d196_64 : decode (hs_code 196) 64 = .ok (.aload_n 0, 1) := by decide +kernel
theorem d196_65 : decode (hs_code 196) 65 = .ok (.getfield 17, 3) := by decide +kernel
theorem d196_68 : decode (hs_code 196) 68 = .ok (.iload_n 1, 1) := by decide +kernel
theorem d196_69 : decode (hs_code 196) 69 = .ok (.iload_n 3, 1) := by decide +kernel
theorem d196_70 : decode (hs_code 196) 70 = .ok (.iastore, 1) := by decide +kernel
theorem d196_71 : decode (hs_code 196) 71 = .ok (.iconst 0, 1) := by decide +kernel
theorem d196_72 : decode (hs_code 196) 72 = .ok (.istore 4, 2) := by decide +kernel
theorem d196_74 : decode (hs_code 196) 74 = .ok (.iload 4, 2) := by decide +kernel
theorem d196_76 : decode (hs_code 196) 76 = .ok (.iload_n 3, 1) := by decide +kernel
theorem d196_77 : decode (hs_code 196) 77 = .ok (.if_icmp .ge 22, 3) := by decide +kernel
theorem d196_80 : decode (hs_code 196) 80 = .ok (.aload_n 0, 1) := by decide +kernel
theorem d196_81 : decode (hs_code 196) 81 = .ok (.getfield 20, 3) := by decide +kernel
theorem d196_84 : decode (hs_code 196) 84 = .ok (.bipush 60, 2) := by decide +kernel
theorem d196_86 : decode (hs_code 196) 86 = .ok (.iload_n 1, 1) := by decide +kernel
theorem d196_87 : decode (hs_code 196) 87 = .ok (.imul, 1) := by decide +kernel
theorem d196_88 : decode (hs_code 196) 88 = .ok (.iload 4, 2) := by decide +kernel
theorem d196_90 : decode (hs_code 196) 90 = .ok (.iadd, 1) := by decide +kernel
theorem d196_91 : decode (hs_code 196) 91 = .ok (.lconst 0, 1) := by decide +kernel
theorem d196_92 : decode (hs_code 196) 92 = .ok (.lastore, 1) := by decide +kernel
theorem d196_93 : decode (hs_code 196) 93 = .ok (.iinc 4 1, 3) := by decide +kernel
theorem d196_96 : decode (hs_code 196) 96 = .ok (.goto (-22), 3) := by decide +kernel
theorem d196_99 : decode (hs_code 196) 99 = .ok (.iconst 1, 1) := by decide +kernel
theorem d196_100 : decode (hs_code 196) 100 = .ok (.ireturn, 1) := by decide +kernel
theorem d197_0 : decode (hs_code 197) 0 = .ok (.aload_n 0, 1) := by decide +kernel
theorem d197_1 : decode (hs_code 197) 1 = .ok (.iload_n 1, 1) := by decide +kernel
theorem d197_2 : decode (hs_code 197) 2 = .ok (.putfield 63, 3) := by decide +kernel
theorem d197_5 : decode (hs_code 197) 5 = .ok (.iconst 0, 1) := by decide +kernel
theorem d197_6 : decode (hs_code 197) 6 = .ok (.ireturn, 1) := by decide +kernel
theorem d198_0 : decode (hs_code 198) 0 = .ok (.aload_n 0, 1) := by decide +kernel
theorem d198_1 : decode (hs_code 198) 1 = .ok (.iconst 0, 1) := by decide +kernel
theorem d198_2 : decode (hs_code 198) 2 = .ok (.putfield 60, 3) := by decide +kernel
theorem d198_5 : decode (hs_code 198) 5 = .ok (.aload_n 0, 1) := by decide +kernel
theorem d198_6 : decode (hs_code 198) 6 = .ok (.aload_n 0, 1) := by decide +kernel
theorem d198_7 : decode (hs_code 198) 7 = .ok (.iload_n 1, 1) := by decide +kernel
theorem d198_8 : decode (hs_code 198) 8 = .ok (.iload_n 2, 1) := by decide +kernel
theorem d198_9 : decode (hs_code 198) 9 = .ok (.invokevirtual 83, 3) := by decide +kernel
theorem d198_12 : decode (hs_code 198) 12 = .ok (.putfield 63, 3) := by decide +kernel
theorem d198_15 : decode (hs_code 198) 15 = .ok (.aload_n 0, 1) := by decide +kernel
theorem d198_16 : decode (hs_code 198) 16 = .ok (.getfield 63, 3) := by decide +kernel
theorem d198_19 : decode (hs_code 198) 19 = .ok (.ifCond .le 5, 3) := by decide +kernel
theorem d198_22 : decode (hs_code 198) 22 = .ok (.iconst 0, 1) := by decide +kernel
theorem d198_23 : decode (hs_code 198) 23 = .ok (.ireturn, 1) := by decide +kernel
theorem d198_24 : decode (hs_code 198) 24 = .ok (.aload_n 0, 1) := by decide +kernel
theorem d198_25 : decode (hs_code 198) 25 = .ok (.getfield 20, 3) := by decide +kernel
theorem d198_28 : decode (hs_code 198) 28 = .ok (.bipush 60, 2) := by decide +kernel
theorem d198_30 : decode (hs_code 198) 30 = .ok (.iload_n 1, 1) := by decide +kernel
theorem d198_31 : decode (hs_code 198) 31 = .ok (.imul, 1) := by decide +kernel
theorem d198_32 : decode (hs_code 198) 32 = .ok (.iload_n 2, 1) := by decide +kernel
theorem d198_33 : decode (hs_code 198) 33 = .ok (.iadd, 1) := by decide +kernel
theorem d198_34 : decode (hs_code 198) 34 = .ok (.aload_n 0, 1) := by decide +kernel
theorem d198_35 : decode (hs_code 198) 35 = .ok (.getfield 13, 3) := by decide +kernel
theorem d198_38 : decode (hs_code 198) 38 = .ok (.iload_n 1, 1) := by decide +kernel
theorem d198_39 : decode (hs_code 198) 39 = .ok (.iaload, 1) := by decide +kernel
theorem d198_40 : decode (hs_code 198) 40 = .ok (.lload_n 3, 1) := by decide +kernel
theorem d198_41 : decode (hs_code 198) 41 = .ok (.invokestatic 87, 3) := by decide +kernel
theorem d198_44 : decode (hs_code 198) 44 = .ok (.lastore, 1) := by decide +kernel
theorem d198_45 : decode (hs_code 198) 45 = .ok (.iconst 1, 1) := by decide +kernel
theorem d198_46 : decode (hs_code 198) 46 = .ok (.ireturn, 1) := by decide +kernel
theorem d199_0 : decode (hs_code 199) 0 = .ok (.aload_n 0, 1) := by decide +kernel
theorem d199_1 : decode (hs_code 199) 1 = .ok (.iload_n 1, 1) := by decide +kernel
theorem d199_2 : decode (hs_code 199) 2 = .ok (.invokevirtual 79, 3) := by decide +kernel
theorem d199_5 : decode (hs_code 199) 5 = .ok (.istore_n 3, 1) := by decide +kernel
theorem d199_6 : decode (hs_code 199) 6 = .ok (.iload_n 3, 1) := by decide +kernel
theorem d199_7 : decode (hs_code 199) 7 = .ok (.ifCond .le 7, 3) := by decide +kernel
theorem d199_10 : decode (hs_code 199) 10 = .ok (.iload_n 3, 1) := by decide +kernel
theorem d199_11 : decode (hs_code 199) 11 = .ok (.goto 22, 3) := by decide +kernel
theorem d199_14 : decode (hs_code 199) 14 = .ok (.iload_n 2, 1) := by decide +kernel
theorem d199_15 : decode (hs_code 199) 15 = .ok (.ifCond .lt 13, 3) := by decide +kernel
theorem d199_18 : decode (hs_code 199) 18 = .ok (.iload_n 2, 1) := by decide +kernel
theorem d199_19 : decode (hs_code 199) 19 = .ok (.aload_n 0, 1) := by decide +kernel
theorem d199_20 : decode (hs_code 199) 20 = .ok (.getfield 17, 3) := by decide +kernel
theorem d199_23 : decode (hs_code 199) 23 = .ok (.iload_n 1, 1) := by decide +kernel
theorem d199_24 : decode (hs_code 199) 24 = .ok (.iaload, 1) := by decide +kernel
theorem d199_25 : decode (hs_code 199) 25 = .ok (.if_icmp .lt 7, 3) := by decide +kernel
theorem d199_28 : decode (hs_code 199) 28 = .ok (.iconst 4, 1) := by decide +kernel
theorem d199_29 : decode (hs_code 199) 29 = .ok (.goto 4, 3) := by decide +kernel
theorem d199_32 : decode (hs_code 199) 32 = .ok (.iconst 0, 1) := by decide +kernel
theorem d199_33 : decode (hs_code 199) 33 = .ok (.ireturn, 1) := by decide +kernel
theorem d200_0 : decode (hs_code 200) 0 = .ok (.iload_n 1, 1) := by decide +kernel
theorem d200_1 : decode (hs_code 200) 1 = .ok (.ifCond .lt 8, 3) := by decide +kernel
theorem d200_4 : decode (hs_code 200) 4 = .ok (.iload_n 1, 1) := by decide +kernel
theorem d200_5 : decode (hs_code 200) 5 = .ok (.iconst 4, 1) := by decide +kernel
theorem d200_6 : decode (hs_code 200) 6 = .ok (.if_icmp .lt 7, 3) := by decide +kernel
theorem d200_9 : decode (hs_code 200) 9 = .ok (.iconst 1, 1) := by decide +kernel
theorem d200_10 : decode (hs_code 200) 10 = .ok (.goto 17, 3) := by decide +kernel
theorem d200_13 : decode (hs_code 200) 13 = .ok (.aload_n 0, 1) := by decide +kernel
theorem d200_14 : decode (hs_code 200) 14 = .ok (.getfield 17, 3) := by decide +kernel
theorem d200_17 : decode (hs_code 200) 17 = .ok (.iload_n 1, 1) := by decide +kernel
theorem d200_18 : decode (hs_code 200) 18 = .ok (.iaload, 1) := by decide +kernel
theorem d200_19 : decode (hs_code 200) 19 = .ok (.ifCond .ge 7, 3) := by decide +kernel
theorem d200_22 : decode (hs_code 200) 22 = .ok (.iconst 3, 1) := by decide +kernel
theorem d200_23 : decode (hs_code 200) 23 = .ok (.goto 4, 3) := by decide +kernel
theorem d200_26 : decode (hs_code 200) 26 = .ok (.iconst 0, 1) := by decide +kernel
theorem d200_27 : decode (hs_code 200) 27 = .ok (.ireturn, 1) := by decide +kernel
theorem d201_0 : decode (hs_code 201) 0 = .ok (.iload_n 0, 1) := by decide +kernel
theorem d201_1 : decode (hs_code 201) 1 = .ok (.ifCond .ne 10, 3) := by decide +kernel
theorem d201_4 : decode (hs_code 201) 4 = .ok (.lload_n 1, 1) := by decide +kernel
theorem d201_5 : decode (hs_code 201) 5 = .ok (.l2i, 1) := by decide +kernel
theorem d201_6 : decode (hs_code 201) 6 = .ok (.i2b, 1) := by decide +kernel
theorem d201_7 : decode (hs_code 201) 7 = .ok (.i2l, 1) := by decide +kernel
theorem d201_8 : decode (hs_code 201) 8 = .ok (.goto 27, 3) := by decide +kernel
theorem d201_11 : decode (hs_code 201) 11 = .ok (.iload_n 0, 1) := by decide +kernel
theorem d201_12 : decode (hs_code 201) 12 = .ok (.iconst 1, 1) := by decide +kernel
theorem d201_13 : decode (hs_code 201) 13 = .ok (.if_icmp .ne 10, 3) := by decide +kernel
theorem d201_16 : decode (hs_code 201) 16 = .ok (.lload_n 1, 1) := by decide +kernel
theorem d201_17 : decode (hs_code 201) 17 = .ok (.l2i, 1) := by decide +kernel
theorem d201_18 : decode (hs_code 201) 18 = .ok (.i2s, 1) := by decide +kernel
theorem d201_19 : decode (hs_code 201) 19 = .ok (.i2l, 1) := by decide +kernel
theorem d201_20 : decode (hs_code 201) 20 = .ok (.goto 15, 3) := by decide +kernel
theorem d201_23 : decode (hs_code 201) 23 = .ok (.iload_n 0, 1) := by decide +kernel
theorem d201_24 : decode (hs_code 201) 24 = .ok (.iconst 2, 1) := by decide +kernel
theorem d201_25 : decode (hs_code 201) 25 = .ok (.if_icmp .ne 9, 3) := by decide +kernel
theorem d201_28 : decode (hs_code 201) 28 = .ok (.lload_n 1, 1) := by decide +kernel
theorem d201_29 : decode (hs_code 201) 29 = .ok (.l2i, 1) := by decide +kernel
theorem d201_30 : decode (hs_code 201) 30 = .ok (.i2l, 1) := by decide +kernel
theorem d201_31 : decode (hs_code 201) 31 = .ok (.goto 4, 3) := by decide +kernel
theorem d201_34 : decode (hs_code 201) 34 = .ok (.lload_n 1, 1) := by decide +kernel
theorem d201_35 : decode (hs_code 201) 35 = .ok (.lreturn, 1) := by decide +kernel
theorem d202_0 : decode (hs_code 202) 0 = .ok (.aload_n 0, 1) := by decide +kernel
theorem d202_1 : decode (hs_code 202) 1 = .ok (.iconst 0, 1) := by decide +kernel
theorem d202_2 : decode (hs_code 202) 2 = .ok (.putfield 60, 3) := by decide +kernel
theorem d202_5 : decode (hs_code 202) 5 = .ok (.aload_n 0, 1) := by decide +kernel
theorem d202_6 : decode (hs_code 202) 6 = .ok (.aload_n 0, 1) := by decide +kernel
theorem d202_7 : decode (hs_code 202) 7 = .ok (.iload_n 1, 1) := by decide +kernel
theorem d202_8 : decode (hs_code 202) 8 = .ok (.iload_n 2, 1) := by decide +kernel
theorem d202_9 : decode (hs_code 202) 9 = .ok (.invokevirtual 83, 3) := by decide +kernel
theorem d202_12 : decode (hs_code 202) 12 = .ok (.putfield 63, 3) := by decide +kernel
theorem d202_15 : decode (hs_code 202) 15 = .ok (.aload_n 0, 1) := by decide +kernel
theorem d202_16 : decode (hs_code 202) 16 = .ok (.getfield 63, 3) := by decide +kernel
theorem d202_19 : decode (hs_code 202) 19 = .ok (.ifCond .le 9, 3) := by decide +kernel
theorem d202_22 : decode (hs_code 202) 22 = .ok (.ldc2_w 91, 3) := by decide +kernel
theorem d202_25 : decode (hs_code 202) 25 = .ok (.goto 14, 3) := by decide +kernel
theorem d202_28 : decode (hs_code 202) 28 = .ok (.aload_n 0, 1) := by decide +kernel
theorem d202_29 : decode (hs_code 202) 29 = .ok (.getfield 20, 3) := by decide +kernel
theorem d202_32 : decode (hs_code 202) 32 = .ok (.bipush 60, 2) := by decide +kernel
theorem d202_34 : decode (hs_code 202) 34 = .ok (.iload_n 1, 1) := by decide +kernel
theorem d202_35 : decode (hs_code 202) 35 = .ok (.imul, 1) := by decide +kernel
theorem d202_36 : decode (hs_code 202) 36 = .ok (.iload_n 2, 1) := by decide +kernel
theorem d202_37 : decode (hs_code 202) 37 = .ok (.iadd, 1) := by decide +kernel
theorem d202_38 : decode (hs_code 202) 38 = .ok (.laload, 1) := by decide +kernel
theorem d202_39 : decode (hs_code 202) 39 = .ok (.lreturn, 1) := by decide +kernel
theorem d203_0 : decode (hs_code 203) 0 = .ok (.aload_n 0, 1) := by decide +kernel
theorem d203_1 : decode (hs_code 203) 1 = .ok (.iconst 0, 1) := by decide +kernel
theorem d203_2 : decode (hs_code 203) 2 = .ok (.putfield 60, 3) := by decide +kernel
theorem d203_5 : decode (hs_code 203) 5 = .ok (.aload_n 0, 1) := by decide +kernel
theorem d203_6 : decode (hs_code 203) 6 = .ok (.iconst 0, 1) := by decide +kernel
theorem d203_7 : decode (hs_code 203) 7 = .ok (.putfield 63, 3) := by decide +kernel
theorem d203_10 : decode (hs_code 203) 10 = .ok (.iload_n 1, 1) := by decide +kernel
theorem d203_11 : decode (hs_code 203) 11 = .ok (.ifCond .lt 17, 3) := by decide +kernel
theorem d203_14 : decode (hs_code 203) 14 = .ok (.iload_n 1, 1) := by decide +kernel
theorem d203_15 : decode (hs_code 203) 15 = .ok (.iconst 4, 1) := by decide +kernel
theorem d203_16 : decode (hs_code 203) 16 = .ok (.if_icmp .ge 12, 3) := by decide +kernel
theorem d203_19 : decode (hs_code 203) 19 = .ok (.iload_n 3, 1) := by decide +kernel
theorem d203_20 : decode (hs_code 203) 20 = .ok (.ifCond .lt 8, 3) := by decide +kernel
theorem d203_23 : decode (hs_code 203) 23 = .ok (.iload_n 3, 1) := by decide +kernel
theorem d203_24 : decode (hs_code 203) 24 = .ok (.iconst 4, 1) := by decide +kernel
theorem d203_25 : decode (hs_code 203) 25 = .ok (.if_icmp .lt 9, 3) := by decide +kernel
theorem d203_28 : decode (hs_code 203) 28 = .ok (.aload_n 0, 1) := by decide +kernel
theorem d203_29 : decode (hs_code 203) 29 = .ok (.iconst 1, 1) := by decide +kernel
theorem d203_30 : decode (hs_code 203) 30 = .ok (.invokevirtual 75, 3) := by decide +kernel
theorem d203_33 : decode (hs_code 203) 33 = .ok (.ireturn, 1) := by decide +kernel
theorem d203_34 : decode (hs_code 203) 34 = .ok (.aload_n 0, 1) := by decide +kernel
theorem d203_35 : decode (hs_code 203) 35 = .ok (.getfield 17, 3) := by decide +kernel
theorem d203_38 : decode (hs_code 203) 38 = .ok (.iload_n 1, 1) := by decide +kernel
theorem d203_39 : decode (hs_code 203) 39 = .ok (.iaload, 1) := by decide +kernel
theorem d203_40 : decode (hs_code 203) 40 = .ok (.ifCond .lt 12, 3) := by decide +kernel
theorem d203_43 : decode (hs_code 203) 43 = .ok (.aload_n 0, 1) := by decide +kernel
theorem d203_44 : decode (hs_code 203) 44 = .ok (.getfield 17, 3) := by decide +kernel
theorem d203_47 : decode (hs_code 203) 47 = .ok (.iload_n 3, 1) := by decide +kernel
theorem d203_48 : decode (hs_code 203) 48 = .ok (.iaload, 1) := by decide +kernel
theorem d203_49 : decode (hs_code 203) 49 = .ok (.ifCond .ge 9, 3) := by decide +kernel
theorem d203_52 : decode (hs_code 203) 52 = .ok (.aload_n 0, 1) := by decide +kernel
theorem d203_53 : decode (hs_code 203) 53 = .ok (.iconst 3, 1) := by decide +kernel
theorem d203_54 : decode (hs_code 203) 54 = .ok (.invokevirtual 75, 3) := by decide +kernel
theorem d203_57 : decode (hs_code 203) 57 = .ok (.ireturn, 1) := by decide +kernel
theorem d203_58 : decode (hs_code 203) 58 = .ok (.aload_n 0, 1) := by decide +kernel
theorem d203_59 : decode (hs_code 203) 59 = .ok (.getfield 13, 3) := by decide +kernel
theorem d203_62 : decode (hs_code 203) 62 = .ok (.iload_n 1, 1) := by decide +kernel
theorem d203_63 : decode (hs_code 203) 63 = .ok (.iaload, 1) := by decide +kernel
theorem d203_64 : decode (hs_code 203) 64 = .ok (.aload_n 0, 1) := by decide +kernel
theorem d203_65 : decode (hs_code 203) 65 = .ok (.getfield 13, 3) := by decide +kernel
theorem d203_68 : decode (hs_code 203) 68 = .ok (.iload_n 3, 1) := by decide +kernel
theorem d203_69 : decode (hs_code 203) 69 = .ok (.iaload, 1) := by decide +kernel
theorem d203_70 : decode (hs_code 203) 70 = .ok (.if_icmp .eq 10, 3) := by decide +kernel
theorem d203_73 : decode (hs_code 203) 73 = .ok (.aload_n 0, 1) := by decide +kernel
theorem d203_74 : decode (hs_code 203) 74 = .ok (.bipush 11, 2) := by decide +kernel
theorem d203_76 : decode (hs_code 203) 76 = .ok (.invokevirtual 75, 3) := by decide +kernel
theorem d203_79 : decode (hs_code 203) 79 = .ok (.ireturn, 1) := by decide +kernel
theorem d203_80 : decode (hs_code 203) 80 = .ok (.iload 5, 2) := by decide +kernel
theorem d203_82 : decode (hs_code 203) 82 = .ok (.ifCond .ge 10, 3) := by decide +kernel
theorem d203_85 : decode (hs_code 203) 85 = .ok (.aload_n 0, 1) := by decide +kernel
theorem d203_86 : decode (hs_code 203) 86 = .ok (.bipush 6, 2) := by decide +kernel
theorem d203_88 : decode (hs_code 203) 88 = .ok (.invokevirtual 75, 3) := by decide +kernel
theorem d203_91 : decode (hs_code 203) 91 = .ok (.ireturn, 1) := by decide +kernel
theorem d203_92 : decode (hs_code 203) 92 = .ok (.iload_n 2, 1) := by decide +kernel
theorem d203_93 : decode (hs_code 203) 93 = .ok (.ifCond .lt 43, 3) := by decide +kernel
theorem d203_96 : decode (hs_code 203) 96 = .ok (.iload 4, 2) := by decide +kernel
theorem d203_98 : decode (hs_code 203) 98 = .ok (.ifCond .lt 38, 3) := by decide +kernel
theorem d203_101 : decode (hs_code 203) 101 = .ok (.iload_n 2, 1) := by decide +kernel
theorem d203_102 : decode (hs_code 203) 102 = .ok (.i2l, 1) := by decide +kernel
theorem d203_103 : decode (hs_code 203) 103 = .ok (.iload 5, 2) := by decide +kernel
theorem d203_105 : decode (hs_code 203) 105 = .ok (.i2l, 1) := by decide +kernel
theorem d203_106 : decode (hs_code 203) 106 = .ok (.ladd, 1) := by decide +kernel
theorem d203_107 : decode (hs_code 203) 107 = .ok (.aload_n 0, 1) := by decide +kernel
theorem d203_108 : decode (hs_code 203) 108 = .ok (.getfield 17, 3) := by decide +kernel
theorem d203_111 : decode (hs_code 203) 111 = .ok (.iload_n 1, 1) := by decide +kernel
theorem d203_112 : decode (hs_code 203) 112 = .ok (.iaload, 1) := by decide +kernel
theorem d203_113 : decode (hs_code 203) 113 = .ok (.i2l, 1) := by decide +kernel
theorem d203_114 : decode (hs_code 203) 114 = .ok (.lcmp, 1) := by decide +kernel
theorem d203_115 : decode (hs_code 203) 115 = .ok (.ifCond .gt 21, 3) := by decide +kernel
theorem d203_118 : decode (hs_code 203) 118 = .ok (.iload 4, 2) := by decide +kernel
theorem d203_120 : decode (hs_code 203) 120 = .ok (.i2l, 1) := by decide +kernel
theorem d203_121 : decode (hs_code 203) 121 = .ok (.iload 5, 2) := by decide +kernel
theorem d203_123 : decode (hs_code 203) 123 = .ok (.i2l, 1) := by decide +kernel
theorem d203_124 : decode (hs_code 203) 124 = .ok (.ladd, 1) := by decide +kernel
theorem d203_125 : decode (hs_code 203) 125 = .ok (.aload_n 0, 1) := by decide +kernel
theorem d203_126 : decode (hs_code 203) 126 = .ok (.getfield 17, 3) := by decide +kernel
theorem d203_129 : decode (hs_code 203) 129 = .ok (.iload_n 3, 1) := by decide +kernel
theorem d203_130 : decode (hs_code 203) 130 = .ok (.iaload, 1) := by decide +kernel
theorem d203_131 : decode (hs_code 203) 131 = .ok (.i2l, 1) := by decide +kernel
theorem d203_132 : decode (hs_code 203) 132 = .ok (.lcmp, 1) := by decide +kernel
theorem d203_133 : decode (hs_code 203) 133 = .ok (.ifCond .le 9, 3) := by decide +kernel
theorem d203_136 : decode (hs_code 203) 136 = .ok (.aload_n 0, 1) := by decide +kernel
theorem d203_137 : decode (hs_code 203) 137 = .ok (.iconst 4, 1) := by decide +kernel
theorem d203_138 : decode (hs_code 203) 138 = .ok (.invokevirtual 75, 3) := by decide +kernel
theorem d203_141 : decode (hs_code 203) 141 = .ok (.ireturn, 1) := by decide +kernel
theorem d203_142 : decode (hs_code 203) 142 = .ok (.iload_n 2, 1) := by decide +kernel
theorem d203_143 : decode (hs_code 203) 143 = .ok (.iload 4, 2) := by decide +kernel
theorem d203_145 : decode (hs_code 203) 145 = .ok (.if_icmp .ge 7, 3) := by decide +kernel
theorem d203_148 : decode (hs_code 203) 148 = .ok (.iconst 1, 1) := by decide +kernel
theorem d203_149 : decode (hs_code 203) 149 = .ok (.goto 4, 3) := by decide +kernel
theorem d203_152 : decode (hs_code 203) 152 = .ok (.iconst 0, 1) := by decide +kernel
theorem d203_153 : decode (hs_code 203) 153 = .ok (.istore 6, 2) := by decide +kernel
theorem d203_155 : decode (hs_code 203) 155 = .ok (.iconst 0, 1) := by decide +kernel
theorem d203_156 : decode (hs_code 203) 156 = .ok (.istore 7, 2) := by decide +kernel
theorem d203_158 : decode (hs_code 203) 158 = .ok (.iload 7, 2) := by decide +kernel
theorem d203_160 : decode (hs_code 203) 160 = .ok (.iload 5, 2) := by decide +kernel
theorem d203_162 : decode (hs_code 203) 162 = .ok (.if_icmp .ge 57, 3) := by decide +kernel
theorem d203_165 : decode (hs_code 203) 165 = .ok (.iload 6, 2) := by decide +kernel
theorem d203_167 : decode (hs_code 203) 167 = .ok (.ifCond .eq 13, 3) := by decide +kernel
theorem d203_170 : decode (hs_code 203) 170 = .ok (.iload 5, 2) := by decide +kernel
theorem d203_172 : decode (hs_code 203) 172 = .ok (.iconst 1, 1) := by decide +kernel
theorem d203_173 : decode (hs_code 203) 173 = .ok (.isub, 1) := by decide +kernel
theorem d203_174 : decode (hs_code 203) 174 = .ok (.iload 7, 2) := by decide +kernel
theorem d203_176 : decode (hs_code 203) 176 = .ok (.isub, 1) := by decide +kernel
theorem d203_177 : decode (hs_code 203) 177 = .ok (.goto 5, 3) := by decide +kernel
theorem d203_180 : decode (hs_code 203) 180 = .ok (.iload 7, 2) := by decide +kernel
theorem d203_182 : decode (hs_code 203) 182 = .ok (.istore 8, 2) := by decide +kernel
theorem d203_184 : decode (hs_code 203) 184 = .ok (.aload_n 0, 1) := by decide +kernel
theorem d203_185 : decode (hs_code 203) 185 = .ok (.getfield 20, 3) := by decide +kernel
theorem d203_188 : decode (hs_code 203) 188 = .ok (.bipush 60, 2) := by decide +kernel
theorem d203_190 : decode (hs_code 203) 190 = .ok (.iload_n 3, 1) := by decide +kernel
theorem d203_191 : decode (hs_code 203) 191 = .ok (.imul, 1) := by decide +kernel
theorem d203_192 : decode (hs_code 203) 192 = .ok (.iload 4, 2) := by decide +kernel
theorem d203_194 : decode (hs_code 203) 194 = .ok (.iadd, 1) := by decide +kernel
theorem d203_195 : decode (hs_code 203) 195 = .ok (.iload 8, 2) := by decide +kernel
theorem d203_197 : decode (hs_code 203) 197 = .ok (.iadd, 1) := by decide +kernel
theorem d203_198 : decode (hs_code 203) 198 = .ok (.aload_n 0, 1) := by decide +kernel
theorem d203_199 : decode (hs_code 203) 199 = .ok (.getfield 20, 3) := by decide +kernel
theorem d203_202 : decode (hs_code 203) 202 = .ok (.bipush 60, 2) := by decide +kernel
theorem d203_204 : decode (hs_code 203) 204 = .ok (.iload_n 1, 1) := by decide +kernel
theorem d203_205 : decode (hs_code 203) 205 = .ok (.imul, 1) := by decide +kernel
theorem d203_206 : decode (hs_code 203) 206 = .ok (.iload_n 2, 1) := by decide +kernel
theorem d203_207 : decode (hs_code 203) 207 = .ok (.iadd, 1) := by decide +kernel
theorem d203_208 : decode (hs_code 203) 208 = .ok (.iload 8, 2) := by decide +kernel
theorem d203_210 : decode (hs_code 203) 210 = .ok (.iadd, 1) := by decide +kernel
theorem d203_211 : decode (hs_code 203) 211 = .ok (.laload, 1) := by decide +kernel
theorem d203_212 : decode (hs_code 203) 212 = .ok (.lastore, 1) := by decide +kernel
theorem d203_213 : decode (hs_code 203) 213 = .ok (.iinc 7 1, 3) := by decide +kernel
theorem d203_216 : decode (hs_code 203) 216 = .ok (.goto (-58), 3) := by decide +kernel
theorem d203_219 : decode (hs_code 203) 219 = .ok (.iconst 1, 1) := by decide +kernel
theorem d203_220 : decode (hs_code 203) 220 = .ok (.ireturn, 1) := by decide +kernel
theorem d204_0 : decode (hs_code 204) 0 = .ok (.aload_n 0, 1) := by decide +kernel
theorem d204_1 : decode (hs_code 204) 1 = .ok (.iconst 0, 1) := by decide +kernel
theorem d204_2 : decode (hs_code 204) 2 = .ok (.putfield 60, 3) := by decide +kernel
theorem d204_5 : decode (hs_code 204) 5 = .ok (.aload_n 0, 1) := by decide +kernel
theorem d204_6 : decode (hs_code 204) 6 = .ok (.getfield 227, 3) := by decide +kernel
theorem d204_9 : decode (hs_code 204) 9 = .ok (.bipush 20, 2) := by decide +kernel
theorem d204_11 : decode (hs_code 204) 11 = .ok (.iadd, 1) := by decide +kernel
theorem d204_12 : decode (hs_code 204) 12 = .ok (.sipush 900, 3) := by decide +kernel
theorem d204_15 : decode (hs_code 204) 15 = .ok (.if_icmp .le 5, 3) := by decide +kernel
theorem d204_18 : decode (hs_code 204) 18 = .ok (.iconst (-1), 1) := by decide +kernel
theorem d204_19 : decode (hs_code 204) 19 = .ok (.ireturn, 1) := by decide +kernel
theorem d204_20 : decode (hs_code 204) 20 = .ok (.aload_n 0, 1) := by decide +kernel
theorem d204_21 : decode (hs_code 204) 21 = .ok (.iload_n 1, 1) := by decide +kernel
theorem d204_22 : decode (hs_code 204) 22 = .ok (.invokevirtual 230, 3) := by decide +kernel
theorem d204_25 : decode (hs_code 204) 25 = .ok (.aload_n 0, 1) := by decide +kernel
theorem d204_26 : decode (hs_code 204) 26 = .ok (.iload_n 2, 1) := by decide +kernel
theorem d204_27 : decode (hs_code 204) 27 = .ok (.invokevirtual 230, 3) := by decide +kernel
theorem d204_30 : decode (hs_code 204) 30 = .ok (.aload_n 0, 1) := by decide +kernel
theorem d204_31 : decode (hs_code 204) 31 = .ok (.iload_n 3, 1) := by decide +kernel
theorem d204_32 : decode (hs_code 204) 32 = .ok (.invokevirtual 230, 3) := by decide +kernel
theorem d204_35 : decode (hs_code 204) 35 = .ok (.aload_n 0, 1) := by decide +kernel
theorem d204_36 : decode (hs_code 204) 36 = .ok (.iload 4, 2) := by decide +kernel
theorem d204_38 : decode (hs_code 204) 38 = .ok (.invokevirtual 230, 3) := by decide +kernel
theorem d204_41 : decode (hs_code 204) 41 = .ok (.aload_n 0, 1) := by decide +kernel
theorem d204_42 : decode (hs_code 204) 42 = .ok (.iload 5, 2) := by decide +kernel
theorem d204_44 : decode (hs_code 204) 44 = .ok (.invokevirtual 230, 3) := by decide +kernel
theorem d204_47 : decode (hs_code 204) 47 = .ok (.aload_n 0, 1) := by decide +kernel
theorem d204_48 : decode (hs_code 204) 48 = .ok (.getfield 227, 3) := by decide +kernel
theorem d204_51 : decode (hs_code 204) 51 = .ok (.ireturn, 1) := by decide +kernel
theorem d205_0 : decode (hs_code 205) 0 = .ok (.iconst 3, 1) := by decide +kernel
theorem d205_1 : decode (hs_code 205) 1 = .ok (.istore_n 2, 1) := by decide +kernel
theorem d205_2 : decode (hs_code 205) 2 = .ok (.iload_n 2, 1) := by decide +kernel
theorem d205_3 : decode (hs_code 205) 3 = .ok (.ifCond .lt 35, 3) := by decide +kernel
theorem d205_6 : decode (hs_code 205) 6 = .ok (.aload_n 0, 1) := by decide +kernel
theorem d205_7 : decode (hs_code 205) 7 = .ok (.getfield 24, 3) := by decide +kernel
theorem d205_10 : decode (hs_code 205) 10 = .ok (.aload_n 0, 1) := by decide +kernel
theorem d205_11 : decode (hs_code 205) 11 = .ok (.getfield 227, 3) := by decide +kernel
theorem d205_14 : decode (hs_code 205) 14 = .ok (.iload_n 1, 1) := by decide +kernel
theorem d205_15 : decode (hs_code 205) 15 = .ok (.bipush 8, 2) := by decide +kernel
theorem d205_17 : decode (hs_code 205) 17 = .ok (.iload_n 2, 1) := by decide +kernel
theorem d205_18 : decode (hs_code 205) 18 = .ok (.imul, 1) := by decide +kernel
theorem d205_19 : decode (hs_code 205) 19 = .ok (.ishr, 1) := by decide +kernel
theorem d205_20 : decode (hs_code 205) 20 = .ok (.i2b, 1) := by decide +kernel
theorem d205_21 : decode (hs_code 205) 21 = .ok (.bastore, 1) := by decide +kernel
theorem d205_22 : decode (hs_code 205) 22 = .ok (.aload_n 0, 1) := by decide +kernel
theorem d205_23 : decode (hs_code 205) 23 = .ok (.dup, 1) := by decide +kernel
theorem d205_24 : decode (hs_code 205) 24 = .ok (.getfield 227, 3) := by decide +kernel
theorem d205_27 : decode (hs_code 205) 27 = .ok (.iconst 1, 1) := by decide +kernel
theorem d205_28 : decode (hs_code 205) 28 = .ok (.iadd, 1) := by decide +kernel
theorem d205_29 : decode (hs_code 205) 29 = .ok (.putfield 227, 3) := by decide +kernel
theorem d205_32 : decode (hs_code 205) 32 = .ok (.iinc 2 (-1), 3) := by decide +kernel
theorem d205_35 : decode (hs_code 205) 35 = .ok (.goto (-33), 3) := by decide +kernel
theorem d205_38 : decode (hs_code 205) 38 = .ok (.return_, 1) := by decide +kernel
theorem d206_0 : decode (hs_code 206) 0 = .ok (.aload_n 0, 1) := by decide +kernel
theorem d206_1 : decode (hs_code 206) 1 = .ok (.iconst 0, 1) := by decide +kernel
theorem d206_2 : decode (hs_code 206) 2 = .ok (.putfield 60, 3) := by decide +kernel
theorem d206_5 : decode (hs_code 206) 5 = .ok (.iload_n 1, 1) := by decide +kernel
theorem d206_6 : decode (hs_code 206) 6 = .ok (.ifCond .ne 10, 3) := by decide +kernel
theorem d206_9 : decode (hs_code 206) 9 = .ok (.aload_n 0, 1) := by decide +kernel
theorem d206_10 : decode (hs_code 206) 10 = .ok (.getfield 28, 3) := by decide +kernel
theorem d206_13 : decode (hs_code 206) 13 = .ok (.goto 16, 3) := by decide +kernel
theorem d206_16 : decode (hs_code 206) 16 = .ok (.iload_n 1, 1) := by decide +kernel
theorem d206_17 : decode (hs_code 206) 17 = .ok (.iconst 1, 1) := by decide +kernel
theorem d206_18 : decode (hs_code 206) 18 = .ok (.if_icmp .ne 10, 3) := by decide +kernel
theorem d206_21 : decode (hs_code 206) 21 = .ok (.aload_n 0, 1) := by decide +kernel
theorem d206_22 : decode (hs_code 206) 22 = .ok (.getfield 32, 3) := by decide +kernel
theorem d206_25 : decode (hs_code 206) 25 = .ok (.goto 4, 3) := by decide +kernel
theorem d206_28 : decode (hs_code 206) 28 = .ok (.iconst (-1), 1) := by decide +kernel
theorem d206_29 : decode (hs_code 206) 29 = .ok (.ireturn, 1) := by decide +kernel
theorem d207_0 : decode (hs_code 207) 0 = .ok (.aload_n 0, 1) := by decide +kernel
theorem d207_1 : decode (hs_code 207) 1 = .ok (.iconst 0, 1) := by decide +kernel
theorem d207_2 : decode (hs_code 207) 2 = .ok (.putfield 60, 3) := by decide +kernel
theorem d207_5 : decode (hs_code 207) 5 = .ok (.aload_n 0, 1) := by decide +kernel
theorem d207_6 : decode (hs_code 207) 6 = .ok (.iconst 0, 1) := by decide +kernel
theorem d207_7 : decode (hs_code 207) 7 = .ok (.putfield 63, 3) := by decide +kernel
theorem d207_10 : decode (hs_code 207) 10 = .ok (.aload_n 0, 1) := by decide +kernel
theorem d207_11 : decode (hs_code 207) 11 = .ok (.iload_n 1, 1) := by decide +kernel
theorem d207_12 : decode (hs_code 207) 12 = .ok (.sipush 900, 3) := by decide +kernel
theorem d207_15 : decode (hs_code 207) 15 = .ok (.invokevirtual 290, 3) := by decide +kernel
theorem d207_18 : decode (hs_code 207) 18 = .ok (.ifCond .ne 5, 3) := by decide +kernel
theorem d207_21 : decode (hs_code 207) 21 = .ok (.iconst (-1), 1) := by decide +kernel
theorem d207_22 : decode (hs_code 207) 22 = .ok (.ireturn, 1) := by decide +kernel
theorem d207_23 : decode (hs_code 207) 23 = .ok (.aload_n 0, 1) := by decide +kernel
theorem d207_24 : decode (hs_code 207) 24 = .ok (.iconst 4, 1) := by decide +kernel
theorem d207_25 : decode (hs_code 207) 25 = .ok (.invokevirtual 56, 3) := by decide +kernel
theorem d207_28 : decode (hs_code 207) 28 = .ok (.aload_n 0, 1) := by decide +kernel
theorem d207_29 : decode (hs_code 207) 29 = .ok (.iconst 0, 1) := by decide +kernel
theorem d207_30 : decode (hs_code 207) 30 = .ok (.putfield 251, 3) := by decide +kernel
theorem d207_33 : decode (hs_code 207) 33 = .ok (.aload_n 0, 1) := by decide +kernel
theorem d207_34 : decode (hs_code 207) 34 = .ok (.getfield 204, 3) := by decide +kernel
theorem d207_37 : decode (hs_code 207) 37 = .ok (.ifCond .ne 27, 3) := by decide +kernel
theorem d207_40 : decode (hs_code 207) 40 = .ok (.aload_n 0, 1) := by decide +kernel
theorem d207_41 : decode (hs_code 207) 41 = .ok (.getfield 115, 3) := by decide +kernel
theorem d207_44 : decode (hs_code 207) 44 = .ok (.ifCond .eq 20, 3) := by decide +kernel
theorem d207_47 : decode (hs_code 207) 47 = .ok (.aload_n 0, 1) := by decide +kernel
theorem d207_48 : decode (hs_code 207) 48 = .ok (.invokevirtual 293, 3) := by decide +kernel
theorem d207_51 : decode (hs_code 207) 51 = .ok (.aload_n 0, 1) := by decide +kernel
theorem d207_52 : decode (hs_code 207) 52 = .ok (.aload_n 0, 1) := by decide +kernel
theorem d207_53 : decode (hs_code 207) 53 = .ok (.bipush 59, 2) := by decide +kernel
theorem d207_55 : decode (hs_code 207) 55 = .ok (.invokevirtual 296, 3) := by decide +kernel
theorem d207_58 : decode (hs_code 207) 58 = .ok (.invokevirtual 220, 3) := by decide +kernel
theorem d207_61 : decode (hs_code 207) 61 = .ok (.goto (-28), 3) := by decide +kernel
theorem d207_64 : decode (hs_code 207) 64 = .ok (.aload_n 0, 1) := by decide +kernel
theorem d207_65 : decode (hs_code 207) 65 = .ok (.invokevirtual 299, 3) := by decide +kernel
theorem d207_68 : decode (hs_code 207) 68 = .ok (.ifCond .ne 5, 3) := by decide +kernel
theorem d207_71 : decode (hs_code 207) 71 = .ok (.iconst (-1), 1) := by decide +kernel
theorem d207_72 : decode (hs_code 207) 72 = .ok (.ireturn, 1) := by decide +kernel
theorem d207_73 : decode (hs_code 207) 73 = .ok (.aload_n 0, 1) := by decide +kernel
theorem d207_74 : decode (hs_code 207) 74 = .ok (.iconst 4, 1) := by decide +kernel
theorem d207_75 : decode (hs_code 207) 75 = .ok (.iconst 0, 1) := by decide +kernel
theorem d207_76 : decode (hs_code 207) 76 = .ok (.invokevirtual 302, 3) := by decide +kernel
theorem d207_79 : decode (hs_code 207) 79 = .ok (.aload_n 0, 1) := by decide +kernel
theorem d207_80 : decode (hs_code 207) 80 = .ok (.getfield 35, 3) := by decide +kernel
theorem d207_83 : decode (hs_code 207) 83 = .ok (.iconst 0, 1) := by decide +kernel
theorem d207_84 : decode (hs_code 207) 84 = .ok (.iaload, 1) := by decide +kernel
theorem d207_85 : decode (hs_code 207) 85 = .ok (.ireturn, 1) := by decide +kernel
theorem d208_0 : decode (hs_code 208) 0 = .ok (.iload_n 1, 1) := by decide +kernel
theorem d208_1 : decode (hs_code 208) 1 = .ok (.ifCond .lt 16, 3) := by decide +kernel
theorem d208_4 : decode (hs_code 208) 4 = .ok (.iload_n 1, 1) := by decide +kernel
theorem d208_5 : decode (hs_code 208) 5 = .ok (.aload_n 0, 1) := by decide +kernel
theorem d208_6 : decode (hs_code 208) 6 = .ok (.getfield 227, 3) := by decide +kernel
theorem d208_9 : decode (hs_code 208) 9 = .ok (.if_icmp .gt 8, 3) := by decide +kernel
theorem d208_12 : decode (hs_code 208) 12 = .ok (.iload_n 1, 1) := by decide +kernel
theorem d208_13 : decode (hs_code 208) 13 = .ok (.iload_n 2, 1) := by decide +kernel
theorem d208_14 : decode (hs_code 208) 14 = .ok (.if_icmp .le 9, 3) := by decide +kernel
theorem d208_17 : decode (hs_code 208) 17 = .ok (.aload_n 0, 1) := by decide +kernel
theorem d208_18 : decode (hs_code 208) 18 = .ok (.iconst 5, 1) := by decide +kernel
theorem d208_19 : decode (hs_code 208) 19 = .ok (.invokevirtual 75, 3) := by decide +kernel
theorem d208_22 : decode (hs_code 208) 22 = .ok (.ireturn, 1) := by decide +kernel
theorem d208_23 : decode (hs_code 208) 23 = .ok (.aload_n 0, 1) := by decide +kernel
theorem d208_24 : decode (hs_code 208) 24 = .ok (.iload_n 1, 1) := by decide +kernel
theorem d208_25 : decode (hs_code 208) 25 = .ok (.putfield 103, 3) := by decide +kernel
theorem d208_28 : decode (hs_code 208) 28 = .ok (.aload_n 0, 1) := by decide +kernel
theorem d208_29 : decode (hs_code 208) 29 = .ok (.iconst 0, 1) := by decide +kernel
theorem d208_30 : decode (hs_code 208) 30 = .ok (.putfield 227, 3) := by decide +kernel
theorem d208_33 : decode (hs_code 208) 33 = .ok (.aload_n 0, 1) := by decide +kernel
theorem d208_34 : decode (hs_code 208) 34 = .ok (.iconst 0, 1) := by decide +kernel
theorem d208_35 : decode (hs_code 208) 35 = .ok (.putfield 106, 3) := by decide +kernel
theorem d208_38 : decode (hs_code 208) 38 = .ok (.aload_n 0, 1) := by decide +kernel
theorem d208_39 : decode (hs_code 208) 39 = .ok (.iconst 0, 1) := by decide +kernel
theorem d208_40 : decode (hs_code 208) 40 = .ok (.putfield 204, 3) := by decide +kernel
theorem d208_43 : decode (hs_code 208) 43 = .ok (.aload_n 0, 1) := by decide +kernel
theorem d208_44 : decode (hs_code 208) 44 = .ok (.invokevirtual 214, 3) := by decide +kernel
theorem d208_47 : decode (hs_code 208) 47 = .ok (.iconst 1, 1) := by decide +kernel
theorem d208_48 : decode (hs_code 208) 48 = .ok (.ireturn, 1) := by decide +kernel
theorem d209_0 : decode (hs_code 209) 0 = .ok (.aload_n 0, 1) := by decide +kernel
theorem d209_1 : decode (hs_code 209) 1 = .ok (.aload_n 0, 1) := by decide +kernel
theorem d209_2 : decode (hs_code 209) 2 = .ok (.getfield 106, 3) := by decide +kernel
theorem d209_5 : decode (hs_code 209) 5 = .ok (.putfield 109, 3) := by decide +kernel
theorem d209_8 : decode (hs_code 209) 8 = .ok (.aload_n 0, 1) := by decide +kernel
theorem d209_9 : decode (hs_code 209) 9 = .ok (.getfield 109, 3) := by decide +kernel
theorem d209_12 : decode (hs_code 209) 12 = .ok (.aload_n 0, 1) := by decide +kernel
theorem d209_13 : decode (hs_code 209) 13 = .ok (.getfield 103, 3) := by decide +kernel
theorem d209_16 : decode (hs_code 209) 16 = .ok (.if_icmp .ge 42, 3) := by decide +kernel
theorem d209_19 : decode (hs_code 209) 19 = .ok (.aload_n 0, 1) := by decide +kernel
theorem d209_20 : decode (hs_code 209) 20 = .ok (.aload_n 0, 1) := by decide +kernel
theorem d209_21 : decode (hs_code 209) 21 = .ok (.getfield 109, 3) := by decide +kernel
theorem d209_24 : decode (hs_code 209) 24 = .ok (.invokevirtual 112, 3) := by decide +kernel
theorem d209_27 : decode (hs_code 209) 27 = .ok (.bipush 10, 2) := by decide +kernel
theorem d209_29 : decode (hs_code 209) 29 = .ok (.if_icmp .eq 16, 3) := by decide +kernel
theorem d209_32 : decode (hs_code 209) 32 = .ok (.aload_n 0, 1) := by decide +kernel
theorem d209_33 : decode (hs_code 209) 33 = .ok (.aload_n 0, 1) := by decide +kernel
theorem d209_34 : decode (hs_code 209) 34 = .ok (.getfield 109, 3) := by decide +kernel
theorem d209_37 : decode (hs_code 209) 37 = .ok (.invokevirtual 112, 3) := by decide +kernel
theorem d209_40 : decode (hs_code 209) 40 = .ok (.bipush 32, 2) := by decide +kernel
theorem d209_42 : decode (hs_code 209) 42 = .ok (.if_icmp .ne 16, 3) := by decide +kernel
theorem d209_45 : decode (hs_code 209) 45 = .ok (.aload_n 0, 1) := by decide +kernel
theorem d209_46 : decode (hs_code 209) 46 = .ok (.dup, 1) := by decide +kernel
theorem d209_47 : decode (hs_code 209) 47 = .ok (.getfield 109, 3) := by decide +kernel
theorem d209_50 : decode (hs_code 209) 50 = .ok (.iconst 1, 1) := by decide +kernel
theorem d209_51 : decode (hs_code 209) 51 = .ok (.iadd, 1) := by decide +kernel
theorem d209_52 : decode (hs_code 209) 52 = .ok (.putfield 109, 3) := by decide +kernel
theorem d209_55 : decode (hs_code 209) 55 = .ok (.goto (-47), 3) := by decide +kernel
theorem d209_58 : decode (hs_code 209) 58 = .ok (.aload_n 0, 1) := by decide +kernel
theorem d209_59 : decode (hs_code 209) 59 = .ok (.aload_n 0, 1) := by decide +kernel
theorem d209_60 : decode (hs_code 209) 60 = .ok (.getfield 109, 3) := by decide +kernel
theorem d209_63 : decode (hs_code 209) 63 = .ok (.putfield 106, 3) := by decide +kernel
theorem d209_66 : decode (hs_code 209) 66 = .ok (.aload_n 0, 1) := by decide +kernel
theorem d209_67 : decode (hs_code 209) 67 = .ok (.getfield 109, 3) := by decide +kernel
theorem d209_70 : decode (hs_code 209) 70 = .ok (.aload_n 0, 1) := by decide +kernel
theorem d209_71 : decode (hs_code 209) 71 = .ok (.getfield 103, 3) := by decide +kernel
theorem d209_74 : decode (hs_code 209) 74 = .ok (.if_icmp .lt 9, 3) := by decide +kernel
theorem d209_77 : decode (hs_code 209) 77 = .ok (.aload_n 0, 1) := by decide +kernel
theorem d209_78 : decode (hs_code 209) 78 = .ok (.iconst 0, 1) := by decide +kernel
theorem d209_79 : decode (hs_code 209) 79 = .ok (.putfield 115, 3) := by decide +kernel
theorem d209_82 : decode (hs_code 209) 82 = .ok (.return_, 1) := by decide +kernel
theorem d209_83 : decode (hs_code 209) 83 = .ok (.aload_n 0, 1) := by decide +kernel
theorem d209_84 : decode (hs_code 209) 84 = .ok (.aload_n 0, 1) := by decide +kernel
theorem d209_85 : decode (hs_code 209) 85 = .ok (.getfield 109, 3) := by decide +kernel
theorem d209_88 : decode (hs_code 209) 88 = .ok (.invokevirtual 112, 3) := by decide +kernel
theorem d209_91 : decode (hs_code 209) 91 = .ok (.istore_n 1, 1) := by decide +kernel
theorem d209_92 : decode (hs_code 209) 92 = .ok (.iload_n 1, 1) := by decide +kernel
theorem d209_93 : decode (hs_code 209) 93 = .ok (.invokestatic 118, 3) := by decide +kernel
theorem d209_96 : decode (hs_code 209) 96 = .ok (.ifCond .eq 102, 3) := by decide +kernel
theorem d209_99 : decode (hs_code 209) 99 = .ok (.aload_n 0, 1) := by decide +kernel
theorem d209_100 : decode (hs_code 209) 100 = .ok (.iconst 1, 1) := by decide +kernel
theorem d209_101 : decode (hs_code 209) 101 = .ok (.putfield 115, 3) := by decide +kernel
theorem d209_104 : decode (hs_code 209) 104 = .ok (.aload_n 0, 1) := by decide +kernel
theorem d209_105 : decode (hs_code 209) 105 = .ok (.lconst 0, 1) := by decide +kernel
theorem d209_106 : decode (hs_code 209) 106 = .ok (.putfield 121, 3) := by decide +kernel
theorem d209_109 : decode (hs_code 209) 109 = .ok (.aload_n 0, 1) := by decide +kernel
theorem d209_110 : decode (hs_code 209) 110 = .ok (.aload_n 0, 1) := by decide +kernel
theorem d209_111 : decode (hs_code 209) 111 = .ok (.getfield 106, 3) := by decide +kernel
theorem d209_114 : decode (hs_code 209) 114 = .ok (.invokevirtual 112, 3) := by decide +kernel
theorem d209_117 : decode (hs_code 209) 117 = .ok (.invokestatic 118, 3) := by decide +kernel
theorem d209_120 : decode (hs_code 209) 120 = .ok (.ifCond .eq 62, 3) := by decide +kernel
theorem d209_123 : decode (hs_code 209) 123 = .ok (.aload_n 0, 1) := by decide +kernel
theorem d209_124 : decode (hs_code 209) 124 = .ok (.aload_n 0, 1) := by decide +kernel
theorem d209_125 : decode (hs_code 209) 125 = .ok (.getfield 106, 3) := by decide +kernel
theorem d209_128 : decode (hs_code 209) 128 = .ok (.aload_n 0, 1) := by decide +kernel
theorem d209_129 : decode (hs_code 209) 129 = .ok (.getfield 109, 3) := by decide +kernel
theorem d209_132 : decode (hs_code 209) 132 = .ok (.isub, 1) := by decide +kernel
theorem d209_133 : decode (hs_code 209) 133 = .ok (.bipush 8, 2) := by decide +kernel
theorem d209_135 : decode (hs_code 209) 135 = .ok (.if_icmp .ge 28, 3) := by decide +kernel
theorem d209_138 : decode (hs_code 209) 138 = .ok (.aload_n 0, 1) := by decide +kernel
theorem d209_139 : decode (hs_code 209) 139 = .ok (.getfield 121, 3) := by decide +kernel
theorem d209_142 : decode (hs_code 209) 142 = .ok (.ldc2_w 124, 3) := by decide +kernel
theorem d209_145 : decode (hs_code 209) 145 = .ok (.lmul, 1) := by decide +kernel
theorem d209_146 : decode (hs_code 209) 146 = .ok (.aload_n 0, 1) := by decide +kernel
theorem d209_147 : decode (hs_code 209) 147 = .ok (.aload_n 0, 1) := by decide +kernel
theorem d209_148 : decode (hs_code 209) 148 = .ok (.getfield 106, 3) := by decide +kernel
theorem d209_151 : decode (hs_code 209) 151 = .ok (.invokevirtual 112, 3) := by decide +kernel
theorem d209_154 : decode (hs_code 209) 154 = .ok (.i2l, 1) := by decide +kernel
theorem d209_155 : decode (hs_code 209) 155 = .ok (.ladd, 1) := by decide +kernel
theorem d209_156 : decode (hs_code 209) 156 = .ok (.ldc2_w 126, 3) := by decide +kernel
theorem d209_159 : decode (hs_code 209) 159 = .ok (.lsub, 1) := by decide +kernel
theorem d209_160 : decode (hs_code 209) 160 = .ok (.goto 6, 3) := by decide +kernel
theorem d209_163 : decode (hs_code 209) 163 = .ok (.ldc2_w 91, 3) := by decide +kernel
theorem d209_166 : decode (hs_code 209) 166 = .ok (.putfield 121, 3) := by decide +kernel
theorem d209_169 : decode (hs_code 209) 169 = .ok (.aload_n 0, 1) := by decide +kernel
theorem d209_170 : decode (hs_code 209) 170 = .ok (.dup, 1) := by decide +kernel
theorem d209_171 : decode (hs_code 209) 171 = .ok (.getfield 106, 3) := by decide +kernel
theorem d209_174 : decode (hs_code 209) 174 = .ok (.iconst 1, 1) := by decide +kernel
theorem d209_175 : decode (hs_code 209) 175 = .ok (.iadd, 1) := by decide +kernel
theorem d209_176 : decode (hs_code 209) 176 = .ok (.putfield 106, 3) := by decide +kernel
theorem d209_179 : decode (hs_code 209) 179 = .ok (.goto (-70), 3) := by decide +kernel
theorem d209_182 : decode (hs_code 209) 182 = .ok (.aload_n 0, 1) := by decide +kernel
theorem d209_183 : decode (hs_code 209) 183 = .ok (.aload_n 0, 1) := by decide +kernel
theorem d209_184 : decode (hs_code 209) 184 = .ok (.getfield 106, 3) := by decide +kernel
theorem d209_187 : decode (hs_code 209) 187 = .ok (.aload_n 0, 1) := by decide +kernel
theorem d209_188 : decode (hs_code 209) 188 = .ok (.getfield 109, 3) := by decide +kernel
theorem d209_191 : decode (hs_code 209) 191 = .ok (.isub, 1) := by decide +kernel
theorem d209_192 : decode (hs_code 209) 192 = .ok (.putfield 128, 3) := by decide +kernel
theorem d209_195 : decode (hs_code 209) 195 = .ok (.goto 135, 3) := by decide +kernel
theorem d209_198 : decode (hs_code 209) 198 = .ok (.iload_n 1, 1) := by decide +kernel
theorem d209_199 : decode (hs_code 209) 199 = .ok (.invokestatic 131, 3) := by decide +kernel
theorem d209_202 : decode (hs_code 209) 202 = .ok (.ifCond .eq 96, 3) := by decide +kernel
theorem d209_205 : decode (hs_code 209) 205 = .ok (.aload_n 0, 1) := by decide +kernel
theorem d209_206 : decode (hs_code 209) 206 = .ok (.iconst 0, 1) := by decide +kernel
theorem d209_207 : decode (hs_code 209) 207 = .ok (.putfield 134, 3) := by decide +kernel
theorem d209_210 : decode (hs_code 209) 210 = .ok (.aload_n 0, 1) := by decide +kernel
theorem d209_211 : decode (hs_code 209) 211 = .ok (.aload_n 0, 1) := by decide +kernel
theorem d209_212 : decode (hs_code 209) 212 = .ok (.getfield 106, 3) := by decide +kernel
theorem d209_215 : decode (hs_code 209) 215 = .ok (.invokevirtual 112, 3) := by decide +kernel
theorem d209_218 : decode (hs_code 209) 218 = .ok (.invokestatic 131, 3) := by decide +kernel
theorem d209_221 : decode (hs_code 209) 221 = .ok (.ifCond .eq 52, 3) := by decide +kernel
theorem d209_224 : decode (hs_code 209) 224 = .ok (.aload_n 0, 1) := by decide +kernel
theorem d209_225 : decode (hs_code 209) 225 = .ok (.getfield 106, 3) := by decide +kernel
theorem d209_228 : decode (hs_code 209) 228 = .ok (.aload_n 0, 1) := by decide +kernel
theorem d209_229 : decode (hs_code 209) 229 = .ok (.getfield 109, 3) := by decide +kernel
theorem d209_232 : decode (hs_code 209) 232 = .ok (.isub, 1) := by decide +kernel
theorem d209_233 : decode (hs_code 209) 233 = .ok (.iconst 4, 1) := by decide +kernel
theorem d209_234 : decode (hs_code 209) 234 = .ok (.if_icmp .ge 26, 3) := by decide +kernel
theorem d209_237 : decode (hs_code 209) 237 = .ok (.aload_n 0, 1) := by decide +kernel
theorem d209_238 : decode (hs_code 209) 238 = .ok (.bipush 10, 2) := by decide +kernel
theorem d209_240 : decode (hs_code 209) 240 = .ok (.aload_n 0, 1) := by decide +kernel
theorem d209_241 : decode (hs_code 209) 241 = .ok (.getfield 134, 3) := by decide +kernel
theorem d209_244 : decode (hs_code 209) 244 = .ok (.imul, 1) := by decide +kernel
theorem d209_245 : decode (hs_code 209) 245 = .ok (.aload_n 0, 1) := by decide +kernel
theorem d209_246 : decode (hs_code 209) 246 = .ok (.aload_n 0, 1) := by decide +kernel
theorem d209_247 : decode (hs_code 209) 247 = .ok (.getfield 106, 3) := by decide +kernel
theorem d209_250 : decode (hs_code 209) 250 = .ok (.invokevirtual 112, 3) := by decide +kernel
theorem d209_253 : decode (hs_code 209) 253 = .ok (.iadd, 1) := by decide +kernel
theorem d209_254 : decode (hs_code 209) 254 = .ok (.bipush 48, 2) := by decide +kernel
theorem d209_256 : decode (hs_code 209) 256 = .ok (.isub, 1) := by decide +kernel
theorem d209_257 : decode (hs_code 209) 257 = .ok (.putfield 134, 3) := by decide +kernel
theorem d209_260 : decode (hs_code 209) 260 = .ok (.aload_n 0, 1) := by decide +kernel
theorem d209_261 : decode (hs_code 209) 261 = .ok (.dup, 1) := by decide +kernel
theorem d209_262 : decode (hs_code 209) 262 = .ok (.getfield 106, 3) := by decide +kernel
theorem d209_265 : decode (hs_code 209) 265 = .ok (.iconst 1, 1) := by decide +kernel
theorem d209_266 : decode (hs_code 209) 266 = .ok (.iadd, 1) := by decide +kernel
theorem d209_267 : decode (hs_code 209) 267 = .ok (.putfield 106, 3) := by decide +kernel
theorem d209_270 : decode (hs_code 209) 270 = .ok (.goto (-60), 3) := by decide +kernel
theorem d209_273 : decode (hs_code 209) 273 = .ok (.aload_n 0, 1) := by decide +kernel
theorem d209_274 : decode (hs_code 209) 274 = .ok (.aload_n 0, 1) := by decide +kernel
theorem d209_275 : decode (hs_code 209) 275 = .ok (.getfield 106, 3) := by decide +kernel
theorem d209_278 : decode (hs_code 209) 278 = .ok (.aload_n 0, 1) := by decide +kernel
theorem d209_279 : decode (hs_code 209) 279 = .ok (.getfield 109, 3) := by decide +kernel
theorem d209_282 : decode (hs_code 209) 282 = .ok (.isub, 1) := by decide +kernel
theorem d209_283 : decode (hs_code 209) 283 = .ok (.iconst 4, 1) := by decide +kernel
theorem d209_284 : decode (hs_code 209) 284 = .ok (.if_icmp .le 7, 3) := by decide +kernel
theorem d209_287 : decode (hs_code 209) 287 = .ok (.iconst 4, 1) := by decide +kernel
theorem d209_288 : decode (hs_code 209) 288 = .ok (.goto 4, 3) := by decide +kernel
theorem d209_291 : decode (hs_code 209) 291 = .ok (.iconst 2, 1) := by decide +kernel
theorem d209_292 : decode (hs_code 209) 292 = .ok (.putfield 115, 3) := by decide +kernel
theorem d209_295 : decode (hs_code 209) 295 = .ok (.goto 35, 3) := by decide +kernel
theorem d209_298 : decode (hs_code 209) 298 = .ok (.aload_n 0, 1) := by decide +kernel
theorem d209_299 : decode (hs_code 209) 299 = .ok (.aload_n 0, 1) := by decide +kernel
theorem d209_300 : decode (hs_code 209) 300 = .ok (.getfield 109, 3) := by decide +kernel
theorem d209_303 : decode (hs_code 209) 303 = .ok (.iconst 1, 1) := by decide +kernel
theorem d209_304 : decode (hs_code 209) 304 = .ok (.iadd, 1) := by decide +kernel
theorem d209_305 : decode (hs_code 209) 305 = .ok (.putfield 106, 3) := by decide +kernel
theorem d209_308 : decode (hs_code 209) 308 = .ok (.aload_n 0, 1) := by decide +kernel
theorem d209_309 : decode (hs_code 209) 309 = .ok (.iload_n 1, 1) := by decide +kernel
theorem d209_310 : decode (hs_code 209) 310 = .ok (.putfield 134, 3) := by decide +kernel
theorem d209_313 : decode (hs_code 209) 313 = .ok (.aload_n 0, 1) := by decide +kernel
theorem d209_314 : decode (hs_code 209) 314 = .ok (.aload_n 0, 1) := by decide +kernel
theorem d209_315 : decode (hs_code 209) 315 = .ok (.iload_n 1, 1) := by decide +kernel
theorem d209_316 : decode (hs_code 209) 316 = .ok (.invokevirtual 137, 3) := by decide +kernel
theorem d209_319 : decode (hs_code 209) 319 = .ok (.ifCond .eq 7, 3) := by decide +kernel
theorem d209_322 : decode (hs_code 209) 322 = .ok (.iconst 3, 1) := by decide +kernel
theorem d209_323 : decode (hs_code 209) 323 = .ok (.goto 4, 3) := by decide +kernel
theorem d209_326 : decode (hs_code 209) 326 = .ok (.iconst 4, 1) := by decide +kernel
theorem d209_327 : decode (hs_code 209) 327 = .ok (.putfield 115, 3) := by decide +kernel
theorem d209_330 : decode (hs_code 209) 330 = .ok (.return_, 1) := by decide +kernel
theorem d210_0 : decode (hs_code 210) 0 = .ok (.iload_n 1, 1) := by decide +kernel
theorem d210_1 : decode (hs_code 210) 1 = .ok (.aload_n 0, 1) := by decide +kernel
theorem d210_2 : decode (hs_code 210) 2 = .ok (.getfield 103, 3) := by decide +kernel
theorem d210_5 : decode (hs_code 210) 5 = .ok (.if_icmp .ge 16, 3) := by decide +kernel
theorem d210_8 : decode (hs_code 210) 8 = .ok (.aload_n 0, 1) := by decide +kernel
theorem d210_9 : decode (hs_code 210) 9 = .ok (.getfield 24, 3) := by decide +kernel
theorem d210_12 : decode (hs_code 210) 12 = .ok (.iload_n 1, 1) := by decide +kernel
theorem d210_13 : decode (hs_code 210) 13 = .ok (.baload, 1) := by decide +kernel
theorem d210_14 : decode (hs_code 210) 14 = .ok (.sipush 255, 3) := by decide +kernel
theorem d210_17 : decode (hs_code 210) 17 = .ok (.iand, 1) := by decide +kernel
theorem d210_18 : decode (hs_code 210) 18 = .ok (.goto 4, 3) := by decide +kernel
theorem d210_21 : decode (hs_code 210) 21 = .ok (.iconst 0, 1) := by decide +kernel
theorem d210_22 : decode (hs_code 210) 22 = .ok (.ireturn, 1) := by decide +kernel
theorem d211_0 : decode (hs_code 211) 0 = .ok (.iload_n 0, 1) := by decide +kernel
theorem d211_1 : decode (hs_code 211) 1 = .ok (.bipush 97, 2) := by decide +kernel
theorem d211_3 : decode (hs_code 211) 3 = .ok (.if_icmp .lt 13, 3) := by decide +kernel
theorem d211_6 : decode (hs_code 211) 6 = .ok (.iload_n 0, 1) := by decide +kernel
theorem d211_7 : decode (hs_code 211) 7 = .ok (.bipush 122, 2) := by decide +kernel
theorem d211_9 : decode (hs_code 211) 9 = .ok (.if_icmp .gt 7, 3) := by decide +kernel
theorem d211_12 : decode (hs_code 211) 12 = .ok (.iconst 1, 1) := by decide +kernel
theorem d211_13 : decode (hs_code 211) 13 = .ok (.goto 4, 3) := by decide +kernel
theorem d211_16 : decode (hs_code 211) 16 = .ok (.iconst 0, 1) := by decide +kernel
theorem d211_17 : decode (hs_code 211) 17 = .ok (.ireturn, 1) := by decide +kernel
theorem d212_0 : decode (hs_code 212) 0 = .ok (.iload_n 0, 1) := by decide +kernel
theorem d212_1 : decode (hs_code 212) 1 = .ok (.bipush 48, 2) := by decide +kernel
theorem d212_3 : decode (hs_code 212) 3 = .ok (.if_icmp .lt 13, 3) := by decide +kernel
theorem d212_6 : decode (hs_code 212) 6 = .ok (.iload_n 0, 1) := by decide +kernel
theorem d212_7 : decode (hs_code 212) 7 = .ok (.bipush 57, 2) := by decide +kernel
theorem d212_9 : decode (hs_code 212) 9 = .ok (.if_icmp .gt 7, 3) := by decide +kernel
theorem d212_12 : decode (hs_code 212) 12 = .ok (.iconst 1, 1) := by decide +kernel
theorem d212_13 : decode (hs_code 212) 13 = .ok (.goto 4, 3) := by decide +kernel
theorem d212_16 : decode (hs_code 212) 16 = .ok (.iconst 0, 1) := by decide +kernel
theorem d212_17 : decode (hs_code 212) 17 = .ok (.ireturn, 1) := by decide +kernel
theorem d213_0 : decode (hs_code 213) 0 = .ok (.iload_n 1, 1) := by decide +kernel
theorem d213_1 : decode (hs_code 213) 1 = .ok (.bipush 59, 2) := by decide +kernel
theorem d213_3 : decode (hs_code 213) 3 = .ok (.if_icmp .eq 21, 3) := by decide +kernel
theorem d213_6 : decode (hs_code 213) 6 = .ok (.iload_n 1, 1) := by decide +kernel
theorem d213_7 : decode (hs_code 213) 7 = .ok (.bipush 60, 2) := by decide +kernel
theorem d213_9 : decode (hs_code 213) 9 = .ok (.if_icmp .eq 15, 3) := by decide +kernel
theorem d213_12 : decode (hs_code 213) 12 = .ok (.iload_n 1, 1) := by decide +kernel
theorem d213_13 : decode (hs_code 213) 13 = .ok (.bipush 62, 2) := by decide +kernel
theorem d213_15 : decode (hs_code 213) 15 = .ok (.if_icmp .eq 9, 3) := by decide +kernel
theorem d213_18 : decode (hs_code 213) 18 = .ok (.iload_n 1, 1) := by decide +kernel
theorem d213_19 : decode (hs_code 213) 19 = .ok (.bipush 61, 2) := by decide +kernel
theorem d213_21 : decode (hs_code 213) 21 = .ok (.if_icmp .ne 7, 3) := by decide +kernel
theorem d213_24 : decode (hs_code 213) 24 = .ok (.iconst 1, 1) := by decide +kernel
theorem d213_25 : decode (hs_code 213) 25 = .ok (.goto 4, 3) := by decide +kernel
theorem d213_28 : decode (hs_code 213) 28 = .ok (.iconst 0, 1) := by decide +kernel
theorem d213_29 : decode (hs_code 213) 29 = .ok (.ireturn, 1) := by decide +kernel
theorem d214_0 : decode (hs_code 214) 0 = .ok (.aload_n 0, 1) := by decide +kernel
theorem d214_1 : decode (hs_code 214) 1 = .ok (.invokevirtual 156, 3) := by decide +kernel
theorem d214_4 : decode (hs_code 214) 4 = .ok (.ifCond .eq 15, 3) := by decide +kernel
theorem d214_7 : decode (hs_code 214) 7 = .ok (.aload_n 0, 1) := by decide +kernel
theorem d214_8 : decode (hs_code 214) 8 = .ok (.bipush 6, 2) := by decide +kernel
theorem d214_10 : decode (hs_code 214) 10 = .ok (.iconst 0, 1) := by decide +kernel
theorem d214_11 : decode (hs_code 214) 11 = .ok (.bipush 16, 2) := by decide +kernel
theorem d214_13 : decode (hs_code 214) 13 = .ok (.invokevirtual 268, 3) := by decide +kernel
theorem d214_16 : decode (hs_code 214) 16 = .ok (.goto 110, 3) := by decide +kernel
theorem d214_19 : decode (hs_code 214) 19 = .ok (.aload_n 0, 1) := by decide +kernel
theorem d214_20 : decode (hs_code 214) 20 = .ok (.invokevirtual 159, 3) := by decide +kernel
theorem d214_23 : decode (hs_code 214) 23 = .ok (.ifCond .eq 15, 3) := by decide +kernel
theorem d214_26 : decode (hs_code 214) 26 = .ok (.aload_n 0, 1) := by decide +kernel
theorem d214_27 : decode (hs_code 214) 27 = .ok (.bipush 7, 2) := by decide +kernel
theorem d214_29 : decode (hs_code 214) 29 = .ok (.iconst 1, 1) := by decide +kernel
theorem d214_30 : decode (hs_code 214) 30 = .ok (.bipush 99, 2) := by decide +kernel
theorem d214_32 : decode (hs_code 214) 32 = .ok (.invokevirtual 268, 3) := by decide +kernel
theorem d214_35 : decode (hs_code 214) 35 = .ok (.goto 91, 3) := by decide +kernel
theorem d214_38 : decode (hs_code 214) 38 = .ok (.aload_n 0, 1) := by decide +kernel
theorem d214_39 : decode (hs_code 214) 39 = .ok (.invokevirtual 162, 3) := by decide +kernel
theorem d214_42 : decode (hs_code 214) 42 = .ok (.ifCond .eq 10, 3) := by decide +kernel
theorem d214_45 : decode (hs_code 214) 45 = .ok (.aload_n 0, 1) := by decide +kernel
theorem d214_46 : decode (hs_code 214) 46 = .ok (.invokevirtual 272, 3) := by decide +kernel
theorem d214_49 : decode (hs_code 214) 49 = .ok (.goto 77, 3) := by decide +kernel
theorem d214_52 : decode (hs_code 214) 52 = .ok (.aload_n 0, 1) := by decide +kernel
theorem d214_53 : decode (hs_code 214) 53 = .ok (.invokevirtual 168, 3) := by decide +kernel
theorem d214_56 : decode (hs_code 214) 56 = .ok (.ifCond .eq 10, 3) := by decide +kernel
theorem d214_59 : decode (hs_code 214) 59 = .ok (.aload_n 0, 1) := by decide +kernel
theorem d214_60 : decode (hs_code 214) 60 = .ok (.invokevirtual 275, 3) := by decide +kernel
theorem d214_63 : decode (hs_code 214) 63 = .ok (.goto 63, 3) := by decide +kernel
theorem d214_66 : decode (hs_code 214) 66 = .ok (.aload_n 0, 1) := by decide +kernel
theorem d214_67 : decode (hs_code 214) 67 = .ok (.invokevirtual 177, 3) := by decide +kernel
theorem d214_70 : decode (hs_code 214) 70 = .ok (.ifCond .eq 10, 3) := by decide +kernel
theorem d214_73 : decode (hs_code 214) 73 = .ok (.aload_n 0, 1) := by decide +kernel
theorem d214_74 : decode (hs_code 214) 74 = .ok (.invokevirtual 278, 3) := by decide +kernel
theorem d214_77 : decode (hs_code 214) 77 = .ok (.goto 49, 3) := by decide +kernel
theorem d214_80 : decode (hs_code 214) 80 = .ok (.aload_n 0, 1) := by decide +kernel
theorem d214_81 : decode (hs_code 214) 81 = .ok (.invokevirtual 183, 3) := by decide +kernel
theorem d214_84 : decode (hs_code 214) 84 = .ok (.ifCond .eq 10, 3) := by decide +kernel
theorem d214_87 : decode (hs_code 214) 87 = .ok (.aload_n 0, 1) := by decide +kernel
theorem d214_88 : decode (hs_code 214) 88 = .ok (.invokevirtual 281, 3) := by decide +kernel
theorem d214_91 : decode (hs_code 214) 91 = .ok (.goto 35, 3) := by decide +kernel
theorem d214_94 : decode (hs_code 214) 94 = .ok (.aload_n 0, 1) := by decide +kernel
theorem d214_95 : decode (hs_code 214) 95 = .ok (.invokevirtual 186, 3) := by decide +kernel
theorem d214_98 : decode (hs_code 214) 98 = .ok (.ifCond .eq 10, 3) := by decide +kernel
theorem d214_101 : decode (hs_code 214) 101 = .ok (.aload_n 0, 1) := by decide +kernel
theorem d214_102 : decode (hs_code 214) 102 = .ok (.invokevirtual 284, 3) := by decide +kernel
theorem d214_105 : decode (hs_code 214) 105 = .ok (.goto 21, 3) := by decide +kernel
theorem d214_108 : decode (hs_code 214) 108 = .ok (.aload_n 0, 1) := by decide +kernel
theorem d214_109 : decode (hs_code 214) 109 = .ok (.invokevirtual 189, 3) := by decide +kernel
theorem d214_112 : decode (hs_code 214) 112 = .ok (.ifCond .eq 10, 3) := by decide +kernel
theorem d214_115 : decode (hs_code 214) 115 = .ok (.aload_n 0, 1) := by decide +kernel
theorem d214_116 : decode (hs_code 214) 116 = .ok (.invokevirtual 287, 3) := by decide +kernel
theorem d214_119 : decode (hs_code 214) 119 = .ok (.goto 7, 3) := by decide +kernel
theorem d214_122 : decode (hs_code 214) 122 = .ok (.aload_n 0, 1) := by decide +kernel
theorem d214_123 : decode (hs_code 214) 123 = .ok (.invokevirtual 217, 3) := by decide +kernel
theorem d214_126 : decode (hs_code 214) 126 = .ok (.return_, 1) := by decide +kernel
theorem d215_0 : decode (hs_code 215) 0 = .ok (.aload_n 0, 1) := by decide +kernel
theorem d215_1 : decode (hs_code 215) 1 = .ok (.bipush 111, 2) := by decide +kernel
theorem d215_3 : decode (hs_code 215) 3 = .ok (.bipush 100, 2) := by decide +kernel
theorem d215_5 : decode (hs_code 215) 5 = .ok (.bipush 100, 2) := by decide +kernel
theorem d215_7 : decode (hs_code 215) 7 = .ok (.bipush 115, 2) := by decide +kernel
theorem d215_9 : decode (hs_code 215) 9 = .ok (.iconst 0, 1) := by decide +kernel
theorem d215_10 : decode (hs_code 215) 10 = .ok (.iconst 0, 1) := by decide +kernel
theorem d215_11 : decode (hs_code 215) 11 = .ok (.invokestatic 140, 3) := by decide +kernel
theorem d215_14 : decode (hs_code 215) 14 = .ok (.invokevirtual 144, 3) := by decide +kernel
theorem d215_17 : decode (hs_code 215) 17 = .ok (.ireturn, 1) := by decide +kernel
theorem d216_0 : decode (hs_code 216) 0 = .ok (.iload_n 0, 1) := by decide +kernel
theorem d216_1 : decode (hs_code 216) 1 = .ok (.i2l, 1) := by decide +kernel
theorem d216_2 : decode (hs_code 216) 2 = .ok (.ldc2_w 126, 3) := by decide +kernel
theorem d216_5 : decode (hs_code 216) 5 = .ok (.lsub, 1) := by decide +kernel
theorem d216_6 : decode (hs_code 216) 6 = .ok (.ldc2_w 124, 3) := by decide +kernel
theorem d216_9 : decode (hs_code 216) 9 = .ok (.lmul, 1) := by decide +kernel
theorem d216_10 : decode (hs_code 216) 10 = .ok (.iload_n 1, 1) := by decide +kernel
theorem d216_11 : decode (hs_code 216) 11 = .ok (.i2l, 1) := by decide +kernel
theorem d216_12 : decode (hs_code 216) 12 = .ok (.ladd, 1) := by decide +kernel
theorem d216_13 : decode (hs_code 216) 13 = .ok (.ldc2_w 126, 3) := by decide +kernel
theorem d216_16 : decode (hs_code 216) 16 = .ok (.lsub, 1) := by decide +kernel
theorem d216_17 : decode (hs_code 216) 17 = .ok (.lstore 6, 2) := by decide +kernel
theorem d216_19 : decode (hs_code 216) 19 = .ok (.iload_n 2, 1) := by decide +kernel
theorem d216_20 : decode (hs_code 216) 20 = .ok (.ifCond .le 19, 3) := by decide +kernel
theorem d216_23 : decode (hs_code 216) 23 = .ok (.lload 6, 2) := by decide +kernel
theorem d216_25 : decode (hs_code 216) 25 = .ok (.ldc2_w 124, 3) := by decide +kernel
theorem d216_28 : decode (hs_code 216) 28 = .ok (.lmul, 1) := by decide +kernel
theorem d216_29 : decode (hs_code 216) 29 = .ok (.iload_n 2, 1) := by decide +kernel
theorem d216_30 : decode (hs_code 216) 30 = .ok (.i2l, 1) := by decide +kernel
theorem d216_31 : decode (hs_code 216) 31 = .ok (.ladd, 1) := by decide +kernel
theorem d216_32 : decode (hs_code 216) 32 = .ok (.ldc2_w 126, 3) := by decide +kernel
theorem d216_35 : decode (hs_code 216) 35 = .ok (.lsub, 1) := by decide +kernel
theorem d216_36 : decode (hs_code 216) 36 = .ok (.goto 5, 3) := by decide +kernel
theorem d216_39 : decode (hs_code 216) 39 = .ok (.lload 6, 2) := by decide +kernel
theorem d216_41 : decode (hs_code 216) 41 = .ok (.lstore 6, 2) := by decide +kernel
theorem d216_43 : decode (hs_code 216) 43 = .ok (.iload_n 3, 1) := by decide +kernel
theorem d216_44 : decode (hs_code 216) 44 = .ok (.ifCond .le 19, 3) := by decide +kernel
theorem d216_47 : decode (hs_code 216) 47 = .ok (.lload 6, 2) := by decide +kernel
theorem d216_49 : decode (hs_code 216) 49 = .ok (.ldc2_w 124, 3) := by decide +kernel
theorem d216_52 : decode (hs_code 216) 52 = .ok (.lmul, 1) := by decide +kernel
theorem d216_53 : decode (hs_code 216) 53 = .ok (.iload_n 3, 1) := by decide +kernel
theorem d216_54 : decode (hs_code 216) 54 = .ok (.i2l, 1) := by decide +kernel
theorem d216_55 : decode (hs_code 216) 55 = .ok (.ladd, 1) := by decide +kernel
theorem d216_56 : decode (hs_code 216) 56 = .ok (.ldc2_w 126, 3) := by decide +kernel
theorem d216_59 : decode (hs_code 216) 59 = .ok (.lsub, 1) := by decide +kernel
theorem d216_60 : decode (hs_code 216) 60 = .ok (.goto 5, 3) := by decide +kernel
theorem d216_63 : decode (hs_code 216) 63 = .ok (.lload 6, 2) := by decide +kernel
theorem d216_65 : decode (hs_code 216) 65 = .ok (.lstore 6, 2) := by decide +kernel
theorem d216_67 : decode (hs_code 216) 67 = .ok (.iload 4, 2) := by decide +kernel
theorem d216_69 : decode (hs_code 216) 69 = .ok (.ifCond .le 20, 3) := by decide +kernel
theorem d216_72 : decode (hs_code 216) 72 = .ok (.lload 6, 2) := by decide +kernel
theorem d216_74 : decode (hs_code 216) 74 = .ok (.ldc2_w 124, 3) := by decide +kernel
theorem d216_77 : decode (hs_code 216) 77 = .ok (.lmul, 1) := by decide +kernel
theorem d216_78 : decode (hs_code 216) 78 = .ok (.iload 4, 2) := by decide +kernel
theorem d216_80 : decode (hs_code 216) 80 = .ok (.i2l, 1) := by decide +kernel
theorem d216_81 : decode (hs_code 216) 81 = .ok (.ladd, 1) := by decide +kernel
theorem d216_82 : decode (hs_code 216) 82 = .ok (.ldc2_w 126, 3) := by decide +kernel
theorem d216_85 : decode (hs_code 216) 85 = .ok (.lsub, 1) := by decide +kernel
theorem d216_86 : decode (hs_code 216) 86 = .ok (.goto 5, 3) := by decide +kernel
theorem d216_89 : decode (hs_code 216) 89 = .ok (.lload 6, 2) := by decide +kernel
theorem d216_91 : decode (hs_code 216) 91 = .ok (.lstore 6, 2) := by decide +kernel
theorem d216_93 : decode (hs_code 216) 93 = .ok (.iload 5, 2) := by decide +kernel
theorem d216_95 : decode (hs_code 216) 95 = .ok (.ifCond .le 20, 3) := by decide +kernel
theorem d216_98 : decode (hs_code 216) 98 = .ok (.lload 6, 2) := by decide +kernel
theorem d216_100 : decode (hs_code 216) 100 = .ok (.ldc2_w 124, 3) := by decide +kernel
theorem d216_103 : decode (hs_code 216) 103 = .ok (.lmul, 1) := by decide +kernel
theorem d216_104 : decode (hs_code 216) 104 = .ok (.iload 5, 2) := by decide +kernel
theorem d216_106 : decode (hs_code 216) 106 = .ok (.i2l, 1) := by decide +kernel
theorem d216_107 : decode (hs_code 216) 107 = .ok (.ladd, 1) := by decide +kernel
theorem d216_108 : decode (hs_code 216) 108 = .ok (.ldc2_w 126, 3) := by decide +kernel
theorem d216_111 : decode (hs_code 216) 111 = .ok (.lsub, 1) := by decide +kernel
theorem d216_112 : decode (hs_code 216) 112 = .ok (.goto 5, 3) := by decide +kernel
theorem d216_115 : decode (hs_code 216) 115 = .ok (.lload 6, 2) := by decide +kernel
theorem d216_117 : decode (hs_code 216) 117 = .ok (.lreturn, 1) := by decide +kernel
theorem d217_0 : decode (hs_code 217) 0 = .ok (.aload_n 0, 1) := by decide +kernel
theorem d217_1 : decode (hs_code 217) 1 = .ok (.getfield 115, 3) := by decide +kernel
theorem d217_4 : decode (hs_code 217) 4 = .ok (.iconst 1, 1) := by decide +kernel
theorem d217_5 : decode (hs_code 217) 5 = .ok (.if_icmp .ne 16, 3) := by decide +kernel
theorem d217_8 : decode (hs_code 217) 8 = .ok (.aload_n 0, 1) := by decide +kernel
theorem d217_9 : decode (hs_code 217) 9 = .ok (.getfield 121, 3) := by decide +kernel
theorem d217_12 : decode (hs_code 217) 12 = .ok (.lload_n 1, 1) := by decide +kernel
theorem d217_13 : decode (hs_code 217) 13 = .ok (.lcmp, 1) := by decide +kernel
theorem d217_14 : decode (hs_code 217) 14 = .ok (.ifCond .ne 7, 3) := by decide +kernel
theorem d217_17 : decode (hs_code 217) 17 = .ok (.iconst 1, 1) := by decide +kernel
theorem d217_18 : decode (hs_code 217) 18 = .ok (.goto 4, 3) := by decide +kernel
theorem d217_21 : decode (hs_code 217) 21 = .ok (.iconst 0, 1) := by decide +kernel
theorem d217_22 : decode (hs_code 217) 22 = .ok (.ireturn, 1) := by decide +kernel
theorem d218_0 : decode (hs_code 218) 0 = .ok (.aload_n 0, 1) := by decide +kernel
theorem d218_1 : decode (hs_code 218) 1 = .ok (.getfield 251, 3) := by decide +kernel
theorem d218_4 : decode (hs_code 218) 4 = .ok (.iload_n 1, 1) := by decide +kernel
theorem d218_5 : decode (hs_code 218) 5 = .ok (.invokestatic 99, 3) := by decide +kernel
theorem d218_8 : decode (hs_code 218) 8 = .ok (.ifCond .eq 12, 3) := by decide +kernel
theorem d218_11 : decode (hs_code 218) 11 = .ok (.aload_n 0, 1) := by decide +kernel
theorem d218_12 : decode (hs_code 218) 12 = .ok (.iconst 5, 1) := by decide +kernel
theorem d218_13 : decode (hs_code 218) 13 = .ok (.aload_n 0, 1) := by decide +kernel
theorem d218_14 : decode (hs_code 218) 14 = .ok (.getfield 109, 3) := by decide +kernel
theorem d218_17 : decode (hs_code 218) 17 = .ok (.invokevirtual 210, 3) := by decide +kernel
theorem d218_20 : decode (hs_code 218) 20 = .ok (.aload_n 0, 1) := by decide +kernel
theorem d218_21 : decode (hs_code 218) 21 = .ok (.getfield 204, 3) := by decide +kernel
theorem d218_24 : decode (hs_code 218) 24 = .ok (.ifCond .le 4, 3) := by decide +kernel
theorem d218_27 : decode (hs_code 218) 27 = .ok (.return_, 1) := by decide +kernel
theorem d218_28 : decode (hs_code 218) 28 = .ok (.aload_n 0, 1) := by decide +kernel
theorem d218_29 : decode (hs_code 218) 29 = .ok (.dup, 1) := by decide +kernel
theorem d218_30 : decode (hs_code 218) 30 = .ok (.getfield 251, 3) := by decide +kernel
theorem d218_33 : decode (hs_code 218) 33 = .ok (.iconst 1, 1) := by decide +kernel
theorem d218_34 : decode (hs_code 218) 34 = .ok (.iload_n 1, 1) := by decide +kernel
theorem d218_35 : decode (hs_code 218) 35 = .ok (.ishl, 1) := by decide +kernel
theorem d218_36 : decode (hs_code 218) 36 = .ok (.ior, 1) := by decide +kernel
theorem d218_37 : decode (hs_code 218) 37 = .ok (.putfield 251, 3) := by decide +kernel
theorem d218_40 : decode (hs_code 218) 40 = .ok (.aload_n 0, 1) := by decide +kernel
theorem d218_41 : decode (hs_code 218) 41 = .ok (.invokevirtual 214, 3) := by decide +kernel
theorem d218_44 : decode (hs_code 218) 44 = .ok (.aload_n 0, 1) := by decide +kernel
theorem d218_45 : decode (hs_code 218) 45 = .ok (.getfield 35, 3) := by decide +kernel
theorem d218_48 : decode (hs_code 218) 48 = .ok (.sipush 1596, 3) := by decide +kernel
theorem d218_51 : decode (hs_code 218) 51 = .ok (.iload_n 1, 1) := by decide +kernel
theorem d218_52 : decode (hs_code 218) 52 = .ok (.iadd, 1) := by decide +kernel
theorem d218_53 : decode (hs_code 218) 53 = .ok (.aload_n 0, 1) := by decide +kernel
theorem d218_54 : decode (hs_code 218) 54 = .ok (.iload_n 2, 1) := by decide +kernel
theorem d218_55 : decode (hs_code 218) 55 = .ok (.iload_n 3, 1) := by decide +kernel
theorem d218_56 : decode (hs_code 218) 56 = .ok (.invokevirtual 224, 3) := by decide +kernel
theorem d218_59 : decode (hs_code 218) 59 = .ok (.iastore, 1) := by decide +kernel
theorem d218_60 : decode (hs_code 218) 60 = .ok (.return_, 1) := by decide +kernel
theorem d219_0 : decode (hs_code 219) 0 = .ok (.iload_n 0, 1) := by decide +kernel
theorem d219_1 : decode (hs_code 219) 1 = .ok (.iload_n 1, 1) := by decide +kernel
theorem d219_2 : decode (hs_code 219) 2 = .ok (.ishr, 1) := by decide +kernel
theorem d219_3 : decode (hs_code 219) 3 = .ok (.iconst 1, 1) := by decide +kernel
theorem d219_4 : decode (hs_code 219) 4 = .ok (.iand, 1) := by decide +kernel
theorem d219_5 : decode (hs_code 219) 5 = .ok (.iconst 1, 1) := by decide +kernel
theorem d219_6 : decode (hs_code 219) 6 = .ok (.if_icmp .ne 7, 3) := by decide +kernel
theorem d219_9 : decode (hs_code 219) 9 = .ok (.iconst 1, 1) := by decide +kernel
theorem d219_10 : decode (hs_code 219) 10 = .ok (.goto 4, 3) := by decide +kernel
theorem d219_13 : decode (hs_code 219) 13 = .ok (.iconst 0, 1) := by decide +kernel
theorem d219_14 : decode (hs_code 219) 14 = .ok (.ireturn, 1) := by decide +kernel
theorem d220_0 : decode (hs_code 220) 0 = .ok (.aload_n 0, 1) := by decide +kernel
theorem d220_1 : decode (hs_code 220) 1 = .ok (.getfield 204, 3) := by decide +kernel
theorem d220_4 : decode (hs_code 220) 4 = .ok (.ifCond .le 4, 3) := by decide +kernel
theorem d220_7 : decode (hs_code 220) 7 = .ok (.return_, 1) := by decide +kernel
theorem d220_8 : decode (hs_code 220) 8 = .ok (.aload_n 0, 1) := by decide +kernel
theorem d220_9 : decode (hs_code 220) 9 = .ok (.iload_n 1, 1) := by decide +kernel
theorem d220_10 : decode (hs_code 220) 10 = .ok (.putfield 204, 3) := by decide +kernel
theorem d220_13 : decode (hs_code 220) 13 = .ok (.aload_n 0, 1) := by decide +kernel
theorem d220_14 : decode (hs_code 220) 14 = .ok (.iload_n 2, 1) := by decide +kernel
theorem d220_15 : decode (hs_code 220) 15 = .ok (.putfield 207, 3) := by decide +kernel
theorem d220_18 : decode (hs_code 220) 18 = .ok (.return_, 1) := by decide +kernel
theorem d221_0 : decode (hs_code 221) 0 = .ok (.aload_n 0, 1) := by decide +kernel
theorem d221_1 : decode (hs_code 221) 1 = .ok (.getfield 204, 3) := by decide +kernel
theorem d221_4 : decode (hs_code 221) 4 = .ok (.ifCond .ne 15, 3) := by decide +kernel
theorem d221_7 : decode (hs_code 221) 7 = .ok (.aload_n 0, 1) := by decide +kernel
theorem d221_8 : decode (hs_code 221) 8 = .ok (.getfield 115, 3) := by decide +kernel
theorem d221_11 : decode (hs_code 221) 11 = .ok (.iconst 2, 1) := by decide +kernel
theorem d221_12 : decode (hs_code 221) 12 = .ok (.if_icmp .eq 7, 3) := by decide +kernel
theorem d221_15 : decode (hs_code 221) 15 = .ok (.aload_n 0, 1) := by decide +kernel
theorem d221_16 : decode (hs_code 221) 16 = .ok (.invokevirtual 217, 3) := by decide +kernel
theorem d221_19 : decode (hs_code 221) 19 = .ok (.aload_n 0, 1) := by decide +kernel
theorem d221_20 : decode (hs_code 221) 20 = .ok (.getfield 204, 3) := by decide +kernel
theorem d221_23 : decode (hs_code 221) 23 = .ok (.ifCond .ne 27, 3) := by decide +kernel
theorem d221_26 : decode (hs_code 221) 26 = .ok (.aload_n 0, 1) := by decide +kernel
theorem d221_27 : decode (hs_code 221) 27 = .ok (.getfield 134, 3) := by decide +kernel
theorem d221_30 : decode (hs_code 221) 30 = .ok (.i2l, 1) := by decide +kernel
theorem d221_31 : decode (hs_code 221) 31 = .ok (.iload_n 1, 1) := by decide +kernel
theorem d221_32 : decode (hs_code 221) 32 = .ok (.i2l, 1) := by decide +kernel
theorem d221_33 : decode (hs_code 221) 33 = .ok (.iload_n 2, 1) := by decide +kernel
theorem d221_34 : decode (hs_code 221) 34 = .ok (.i2l, 1) := by decide +kernel
theorem d221_35 : decode (hs_code 221) 35 = .ok (.invokestatic 95, 3) := by decide +kernel
theorem d221_38 : decode (hs_code 221) 38 = .ok (.ifCond .ne 12, 3) := by decide +kernel
theorem d221_41 : decode (hs_code 221) 41 = .ok (.aload_n 0, 1) := by decide +kernel
theorem d221_42 : decode (hs_code 221) 42 = .ok (.iconst 4, 1) := by decide +kernel
theorem d221_43 : decode (hs_code 221) 43 = .ok (.aload_n 0, 1) := by decide +kernel
theorem d221_44 : decode (hs_code 221) 44 = .ok (.getfield 109, 3) := by decide +kernel
theorem d221_47 : decode (hs_code 221) 47 = .ok (.invokevirtual 210, 3) := by decide +kernel
theorem d221_50 : decode (hs_code 221) 50 = .ok (.aload_n 0, 1) := by decide +kernel
theorem d221_51 : decode (hs_code 221) 51 = .ok (.getfield 204, 3) := by decide +kernel
theorem d221_54 : decode (hs_code 221) 54 = .ok (.ifCond .le 5, 3) := by decide +kernel
theorem d221_57 : decode (hs_code 221) 57 = .ok (.iconst 0, 1) := by decide +kernel
theorem d221_58 : decode (hs_code 221) 58 = .ok (.ireturn, 1) := by decide +kernel
theorem d221_59 : decode (hs_code 221) 59 = .ok (.aload_n 0, 1) := by decide +kernel
theorem d221_60 : decode (hs_code 221) 60 = .ok (.getfield 134, 3) := by decide +kernel
theorem d221_63 : decode (hs_code 221) 63 = .ok (.istore_n 3, 1) := by decide +kernel
theorem d221_64 : decode (hs_code 221) 64 = .ok (.aload_n 0, 1) := by decide +kernel
theorem d221_65 : decode (hs_code 221) 65 = .ok (.invokevirtual 214, 3) := by decide +kernel
theorem d221_68 : decode (hs_code 221) 68 = .ok (.iload_n 3, 1) := by decide +kernel
theorem d221_69 : decode (hs_code 221) 69 = .ok (.ireturn, 1) := by decide +kernel
theorem d222_0 : decode (hs_code 222) 0 = .ok (.aload_n 0, 1) := by decide +kernel
theorem d222_1 : decode (hs_code 222) 1 = .ok (.aload_n 0, 1) := by decide +kernel
theorem d222_2 : decode (hs_code 222) 2 = .ok (.getfield 115, 3) := by decide +kernel
theorem d222_5 : decode (hs_code 222) 5 = .ok (.iconst 4, 1) := by decide +kernel
theorem d222_6 : decode (hs_code 222) 6 = .ok (.if_icmp .ne 7, 3) := by decide +kernel
theorem d222_9 : decode (hs_code 222) 9 = .ok (.iconst 1, 1) := by decide +kernel
theorem d222_10 : decode (hs_code 222) 10 = .ok (.goto 4, 3) := by decide +kernel
theorem d222_13 : decode (hs_code 222) 13 = .ok (.iconst 2, 1) := by decide +kernel
theorem d222_14 : decode (hs_code 222) 14 = .ok (.aload_n 0, 1) := by decide +kernel
theorem d222_15 : decode (hs_code 222) 15 = .ok (.getfield 109, 3) := by decide +kernel
theorem d222_18 : decode (hs_code 222) 18 = .ok (.invokevirtual 210, 3) := by decide +kernel
theorem d222_21 : decode (hs_code 222) 21 = .ok (.return_, 1) := by decide +kernel
theorem d223_0 : decode (hs_code 223) 0 = .ok (.lload_n 0, 1) := by decide +kernel
theorem d223_1 : decode (hs_code 223) 1 = .ok (.lload_n 2, 1) := by decide +kernel
theorem d223_2 : decode (hs_code 223) 2 = .ok (.lcmp, 1) := by decide +kernel
theorem d223_3 : decode (hs_code 223) 3 = .ok (.ifCond .lt 14, 3) := by decide +kernel
theorem d223_6 : decode (hs_code 223) 6 = .ok (.lload_n 0, 1) := by decide +kernel
theorem d223_7 : decode (hs_code 223) 7 = .ok (.lload 4, 2) := by decide +kernel
theorem d223_9 : decode (hs_code 223) 9 = .ok (.lcmp, 1) := by decide +kernel
theorem d223_10 : decode (hs_code 223) 10 = .ok (.ifCond .gt 7, 3) := by decide +kernel
theorem d223_13 : decode (hs_code 223) 13 = .ok (.iconst 1, 1) := by decide +kernel
theorem d223_14 : decode (hs_code 223) 14 = .ok (.goto 4, 3) := by decide +kernel
theorem d223_17 : decode (hs_code 223) 17 = .ok (.iconst 0, 1) := by decide +kernel
theorem d223_18 : decode (hs_code 223) 18 = .ok (.ireturn, 1) := by decide +kernel
theorem d224_0 : decode (hs_code 224) 0 = .ok (.aload_n 0, 1) := by decide +kernel
theorem d224_1 : decode (hs_code 224) 1 = .ok (.bipush 103, 2) := by decide +kernel
theorem d224_3 : decode (hs_code 224) 3 = .ok (.bipush 114, 2) := by decide +kernel
theorem d224_5 : decode (hs_code 224) 5 = .ok (.bipush 101, 2) := by decide +kernel
theorem d224_7 : decode (hs_code 224) 7 = .ok (.bipush 121, 2) := by decide +kernel
theorem d224_9 : decode (hs_code 224) 9 = .ok (.bipush 115, 2) := by decide +kernel
theorem d224_11 : decode (hs_code 224) 11 = .ok (.iconst 0, 1) := by decide +kernel
theorem d224_12 : decode (hs_code 224) 12 = .ok (.invokestatic 140, 3) := by decide +kernel
theorem d224_15 : decode (hs_code 224) 15 = .ok (.invokevirtual 144, 3) := by decide +kernel
theorem d224_18 : decode (hs_code 224) 18 = .ok (.ireturn, 1) := by decide +kernel
theorem d225_0 : decode (hs_code 225) 0 = .ok (.aload_n 0, 1) := by decide +kernel
theorem d225_1 : decode (hs_code 225) 1 = .ok (.bipush 104, 2) := by decide +kernel
theorem d225_3 : decode (hs_code 225) 3 = .ok (.bipush 97, 2) := by decide +kernel
theorem d225_5 : decode (hs_code 225) 5 = .ok (.bipush 105, 2) := by decide +kernel
theorem d225_7 : decode (hs_code 225) 7 = .ok (.bipush 114, 2) := by decide +kernel
theorem d225_9 : decode (hs_code 225) 9 = .ok (.iconst 0, 1) := by decide +kernel
theorem d225_10 : decode (hs_code 225) 10 = .ok (.iconst 0, 1) := by decide +kernel
theorem d225_11 : decode (hs_code 225) 11 = .ok (.invokestatic 140, 3) := by decide +kernel
theorem d225_14 : decode (hs_code 225) 14 = .ok (.invokevirtual 144, 3) := by decide +kernel
theorem d225_17 : decode (hs_code 225) 17 = .ok (.ireturn, 1) := by decide +kernel
theorem d226_0 : decode (hs_code 226) 0 = .ok (.aload_n 0, 1) := by decide +kernel
theorem d226_1 : decode (hs_code 226) 1 = .ok (.iconst 0, 1) := by decide +kernel
theorem d226_2 : decode (hs_code 226) 2 = .ok (.bipush 8, 2) := by decide +kernel
theorem d226_4 : decode (hs_code 226) 4 = .ok (.invokevirtual 254, 3) := by decide +kernel
theorem d226_7 : decode (hs_code 226) 7 = .ok (.istore_n 1, 1) := by decide +kernel
theorem d226_8 : decode (hs_code 226) 8 = .ok (.aload_n 0, 1) := by decide +kernel
theorem d226_9 : decode (hs_code 226) 9 = .ok (.aload_n 0, 1) := by decide +kernel
theorem d226_10 : decode (hs_code 226) 10 = .ok (.invokevirtual 148, 3) := by decide +kernel
theorem d226_13 : decode (hs_code 226) 13 = .ok (.iconst 0, 1) := by decide +kernel
theorem d226_14 : decode (hs_code 226) 14 = .ok (.bipush 99, 2) := by decide +kernel
theorem d226_16 : decode (hs_code 226) 16 = .ok (.invokevirtual 257, 3) := by decide +kernel
theorem d226_19 : decode (hs_code 226) 19 = .ok (.istore_n 2, 1) := by decide +kernel
theorem d226_20 : decode (hs_code 226) 20 = .ok (.aload_n 0, 1) := by decide +kernel
theorem d226_21 : decode (hs_code 226) 21 = .ok (.aload_n 0, 1) := by decide +kernel
theorem d226_22 : decode (hs_code 226) 22 = .ok (.invokevirtual 165, 3) := by decide +kernel
theorem d226_25 : decode (hs_code 226) 25 = .ok (.invokevirtual 261, 3) := by decide +kernel
theorem d226_28 : decode (hs_code 226) 28 = .ok (.ifCond .eq 13, 3) := by decide +kernel
theorem d226_31 : decode (hs_code 226) 31 = .ok (.aload_n 0, 1) := by decide +kernel
theorem d226_32 : decode (hs_code 226) 32 = .ok (.iconst 0, 1) := by decide +kernel
theorem d226_33 : decode (hs_code 226) 33 = .ok (.bipush 9, 2) := by decide +kernel
theorem d226_35 : decode (hs_code 226) 35 = .ok (.invokevirtual 224, 3) := by decide +kernel
theorem d226_38 : decode (hs_code 226) 38 = .ok (.goto 4, 3) := by decide +kernel
theorem d226_41 : decode (hs_code 226) 41 = .ok (.iconst 1, 1) := by decide +kernel
theorem d226_42 : decode (hs_code 226) 42 = .ok (.istore_n 3, 1) := by decide +kernel
theorem d226_43 : decode (hs_code 226) 43 = .ok (.aload_n 0, 1) := by decide +kernel
theorem d226_44 : decode (hs_code 226) 44 = .ok (.getfield 204, 3) := by decide +kernel
theorem d226_47 : decode (hs_code 226) 47 = .ok (.ifCond .ne 33, 3) := by decide +kernel
theorem d226_50 : decode (hs_code 226) 50 = .ok (.aload_n 0, 1) := by decide +kernel
theorem d226_51 : decode (hs_code 226) 51 = .ok (.invokevirtual 192, 3) := by decide +kernel
theorem d226_54 : decode (hs_code 226) 54 = .ok (.ifCond .lt 26, 3) := by decide +kernel
theorem d226_57 : decode (hs_code 226) 57 = .ok (.aload_n 0, 1) := by decide +kernel
theorem d226_58 : decode (hs_code 226) 58 = .ok (.invokevirtual 192, 3) := by decide +kernel
theorem d226_61 : decode (hs_code 226) 61 = .ok (.iconst 1, 1) := by decide +kernel
theorem d226_62 : decode (hs_code 226) 62 = .ok (.if_icmp .eq 18, 3) := by decide +kernel
theorem d226_65 : decode (hs_code 226) 65 = .ok (.aload_n 0, 1) := by decide +kernel
theorem d226_66 : decode (hs_code 226) 66 = .ok (.invokevirtual 192, 3) := by decide +kernel
theorem d226_69 : decode (hs_code 226) 69 = .ok (.iconst 3, 1) := by decide +kernel
theorem d226_70 : decode (hs_code 226) 70 = .ok (.if_icmp .eq 10, 3) := by decide +kernel
theorem d226_73 : decode (hs_code 226) 73 = .ok (.aload_n 0, 1) := by decide +kernel
theorem d226_74 : decode (hs_code 226) 74 = .ok (.invokevirtual 192, 3) := by decide +kernel
theorem d226_77 : decode (hs_code 226) 77 = .ok (.goto 4, 3) := by decide +kernel
theorem d226_80 : decode (hs_code 226) 80 = .ok (.iconst (-1), 1) := by decide +kernel
theorem d226_81 : decode (hs_code 226) 81 = .ok (.istore 4, 2) := by decide +kernel
theorem d226_83 : decode (hs_code 226) 83 = .ok (.iload 4, 2) := by decide +kernel
theorem d226_85 : decode (hs_code 226) 85 = .ok (.ifCond .lt 7, 3) := by decide +kernel
theorem d226_88 : decode (hs_code 226) 88 = .ok (.aload_n 0, 1) := by decide +kernel
theorem d226_89 : decode (hs_code 226) 89 = .ok (.invokevirtual 214, 3) := by decide +kernel
theorem d226_92 : decode (hs_code 226) 92 = .ok (.aload_n 0, 1) := by decide +kernel
theorem d226_93 : decode (hs_code 226) 93 = .ok (.getfield 204, 3) := by decide +kernel
theorem d226_96 : decode (hs_code 226) 96 = .ok (.ifCond .le 4, 3) := by decide +kernel
theorem d226_99 : decode (hs_code 226) 99 = .ok (.return_, 1) := by decide +kernel
theorem d226_100 : decode (hs_code 226) 100 = .ok (.aload_n 0, 1) := by decide +kernel
theorem d226_101 : decode (hs_code 226) 101 = .ok (.getfield 35, 3) := by decide +kernel
theorem d226_104 : decode (hs_code 226) 104 = .ok (.sipush 1606, 3) := by decide +kernel
theorem d226_107 : decode (hs_code 226) 107 = .ok (.iload_n 1, 1) := by decide +kernel
theorem d226_108 : decode (hs_code 226) 108 = .ok (.iadd, 1) := by decide +kernel
theorem d226_109 : decode (hs_code 226) 109 = .ok (.iload_n 2, 1) := by decide +kernel
theorem d226_110 : decode (hs_code 226) 110 = .ok (.iastore, 1) := by decide +kernel
theorem d226_111 : decode (hs_code 226) 111 = .ok (.aload_n 0, 1) := by decide +kernel
theorem d226_112 : decode (hs_code 226) 112 = .ok (.getfield 35, 3) := by decide +kernel
theorem d226_115 : decode (hs_code 226) 115 = .ok (.sipush 1614, 3) := by decide +kernel
theorem d226_118 : decode (hs_code 226) 118 = .ok (.iload_n 1, 1) := by decide +kernel
theorem d226_119 : decode (hs_code 226) 119 = .ok (.iadd, 1) := by decide +kernel
theorem d226_120 : decode (hs_code 226) 120 = .ok (.iload_n 3, 1) := by decide +kernel
theorem d226_121 : decode (hs_code 226) 121 = .ok (.iastore, 1) := by decide +kernel
theorem d226_122 : decode (hs_code 226) 122 = .ok (.aload_n 0, 1) := by decide +kernel
theorem d226_123 : decode (hs_code 226) 123 = .ok (.getfield 35, 3) := by decide +kernel
theorem d226_126 : decode (hs_code 226) 126 = .ok (.sipush 1622, 3) := by decide +kernel
theorem d226_129 : decode (hs_code 226) 129 = .ok (.iload_n 1, 1) := by decide +kernel
theorem d226_130 : decode (hs_code 226) 130 = .ok (.iadd, 1) := by decide +kernel
theorem d226_131 : decode (hs_code 226) 131 = .ok (.iload 4, 2) := by decide +kernel
theorem d226_133 : decode (hs_code 226) 133 = .ok (.ifCond .ge 7, 3) := by decide +kernel
theorem d226_136 : decode (hs_code 226) 136 = .ok (.iconst 1, 1) := by decide +kernel
theorem d226_137 : decode (hs_code 226) 137 = .ok (.goto 5, 3) := by decide +kernel
theorem d226_140 : decode (hs_code 226) 140 = .ok (.iload 4, 2) := by decide +kernel
theorem d226_142 : decode (hs_code 226) 142 = .ok (.iastore, 1) := by decide +kernel
theorem d226_143 : decode (hs_code 226) 143 = .ok (.iconst 0, 1) := by decide +kernel
theorem d226_144 : decode (hs_code 226) 144 = .ok (.istore 5, 2) := by decide +kernel
theorem d226_146 : decode (hs_code 226) 146 = .ok (.iload 5, 2) := by decide +kernel
theorem d226_148 : decode (hs_code 226) 148 = .ok (.bipush 6, 2) := by decide +kernel
theorem d226_150 : decode (hs_code 226) 150 = .ok (.if_icmp .ge 26, 3) := by decide +kernel
theorem d226_153 : decode (hs_code 226) 153 = .ok (.aload_n 0, 1) := by decide +kernel
theorem d226_154 : decode (hs_code 226) 154 = .ok (.getfield 35, 3) := by decide +kernel
theorem d226_157 : decode (hs_code 226) 157 = .ok (.sipush 1655, 3) := by decide +kernel
theorem d226_160 : decode (hs_code 226) 160 = .ok (.bipush 8, 2) := by decide +kernel
theorem d226_162 : decode (hs_code 226) 162 = .ok (.iload 5, 2) := by decide +kernel
theorem d226_164 : decode (hs_code 226) 164 = .ok (.imul, 1) := by decide +kernel
theorem d226_165 : decode (hs_code 226) 165 = .ok (.iadd, 1) := by decide +kernel
theorem d226_166 : decode (hs_code 226) 166 = .ok (.iload_n 1, 1) := by decide +kernel
theorem d226_167 : decode (hs_code 226) 167 = .ok (.iadd, 1) := by decide +kernel
theorem d226_168 : decode (hs_code 226) 168 = .ok (.iconst 3, 1) := by decide +kernel
theorem d226_169 : decode (hs_code 226) 169 = .ok (.iastore, 1) := by decide +kernel
theorem d226_170 : decode (hs_code 226) 170 = .ok (.iinc 5 1, 3) := by decide +kernel
theorem d226_173 : decode (hs_code 226) 173 = .ok (.goto (-27), 3) := by decide +kernel
theorem d226_176 : decode (hs_code 226) 176 = .ok (.aload_n 0, 1) := by decide +kernel
theorem d226_177 : decode (hs_code 226) 177 = .ok (.getfield 35, 3) := by decide +kernel
theorem d226_180 : decode (hs_code 226) 180 = .ok (.sipush 1596, 3) := by decide +kernel
theorem d226_183 : decode (hs_code 226) 183 = .ok (.dup2, 1) := by decide +kernel
theorem d226_184 : decode (hs_code 226) 184 = .ok (.iaload, 1) := by decide +kernel
theorem d226_185 : decode (hs_code 226) 185 = .ok (.iconst 1, 1) := by decide +kernel
theorem d226_186 : decode (hs_code 226) 186 = .ok (.iadd, 1) := by decide +kernel
theorem d226_187 : decode (hs_code 226) 187 = .ok (.iastore, 1) := by decide +kernel
theorem d226_188 : decode (hs_code 226) 188 = .ok (.return_, 1) := by decide +kernel
theorem d227_0 : decode (hs_code 227) 0 = .ok (.aload_n 0, 1) := by decide +kernel
theorem d227_1 : decode (hs_code 227) 1 = .ok (.getfield 35, 3) := by decide +kernel
theorem d227_4 : decode (hs_code 227) 4 = .ok (.sipush 1596, 3) := by decide +kernel
theorem d227_7 : decode (hs_code 227) 7 = .ok (.iload_n 1, 1) := by decide +kernel
theorem d227_8 : decode (hs_code 227) 8 = .ok (.iadd, 1) := by decide +kernel
theorem d227_9 : decode (hs_code 227) 9 = .ok (.iaload, 1) := by decide +kernel
theorem d227_10 : decode (hs_code 227) 10 = .ok (.istore_n 3, 1) := by decide +kernel
theorem d227_11 : decode (hs_code 227) 11 = .ok (.iload_n 3, 1) := by decide +kernel
theorem d227_12 : decode (hs_code 227) 12 = .ok (.iload_n 2, 1) := by decide +kernel
theorem d227_13 : decode (hs_code 227) 13 = .ok (.if_icmp .ne 13, 3) := by decide +kernel
theorem d227_16 : decode (hs_code 227) 16 = .ok (.aload_n 0, 1) := by decide +kernel
theorem d227_17 : decode (hs_code 227) 17 = .ok (.bipush 6, 2) := by decide +kernel
theorem d227_19 : decode (hs_code 227) 19 = .ok (.aload_n 0, 1) := by decide +kernel
theorem d227_20 : decode (hs_code 227) 20 = .ok (.getfield 109, 3) := by decide +kernel
theorem d227_23 : decode (hs_code 227) 23 = .ok (.invokevirtual 210, 3) := by decide +kernel
theorem d227_26 : decode (hs_code 227) 26 = .ok (.aload_n 0, 1) := by decide +kernel
theorem d227_27 : decode (hs_code 227) 27 = .ok (.getfield 204, 3) := by decide +kernel
theorem d227_30 : decode (hs_code 227) 30 = .ok (.ifCond .le 5, 3) := by decide +kernel
theorem d227_33 : decode (hs_code 227) 33 = .ok (.iconst 0, 1) := by decide +kernel
theorem d227_34 : decode (hs_code 227) 34 = .ok (.ireturn, 1) := by decide +kernel
theorem d227_35 : decode (hs_code 227) 35 = .ok (.aload_n 0, 1) := by decide +kernel
theorem d227_36 : decode (hs_code 227) 36 = .ok (.invokevirtual 214, 3) := by decide +kernel
theorem d227_39 : decode (hs_code 227) 39 = .ok (.aload_n 0, 1) := by decide +kernel
theorem d227_40 : decode (hs_code 227) 40 = .ok (.invokevirtual 239, 3) := by decide +kernel
theorem d227_43 : decode (hs_code 227) 43 = .ok (.ifCond .ne 7, 3) := by decide +kernel
theorem d227_46 : decode (hs_code 227) 46 = .ok (.aload_n 0, 1) := by decide +kernel
theorem d227_47 : decode (hs_code 227) 47 = .ok (.invokevirtual 217, 3) := by decide +kernel
theorem d227_50 : decode (hs_code 227) 50 = .ok (.aload_n 0, 1) := by decide +kernel
theorem d227_51 : decode (hs_code 227) 51 = .ok (.getfield 204, 3) := by decide +kernel
theorem d227_54 : decode (hs_code 227) 54 = .ok (.ifCond .ne 19, 3) := by decide +kernel
theorem d227_57 : decode (hs_code 227) 57 = .ok (.aload_n 0, 1) := by decide +kernel
theorem d227_58 : decode (hs_code 227) 58 = .ok (.invokevirtual 242, 3) := by decide +kernel
theorem d227_61 : decode (hs_code 227) 61 = .ok (.ifCond .eq 12, 3) := by decide +kernel
theorem d227_64 : decode (hs_code 227) 64 = .ok (.aload_n 0, 1) := by decide +kernel
theorem d227_65 : decode (hs_code 227) 65 = .ok (.iconst 3, 1) := by decide +kernel
theorem d227_66 : decode (hs_code 227) 66 = .ok (.aload_n 0, 1) := by decide +kernel
theorem d227_67 : decode (hs_code 227) 67 = .ok (.getfield 109, 3) := by decide +kernel
theorem d227_70 : decode (hs_code 227) 70 = .ok (.invokevirtual 210, 3) := by decide +kernel
theorem d227_73 : decode (hs_code 227) 73 = .ok (.aload_n 0, 1) := by decide +kernel
theorem d227_74 : decode (hs_code 227) 74 = .ok (.getfield 204, 3) := by decide +kernel
theorem d227_77 : decode (hs_code 227) 77 = .ok (.ifCond .le 5, 3) := by decide +kernel
theorem d227_80 : decode (hs_code 227) 80 = .ok (.iconst 0, 1) := by decide +kernel
theorem d227_81 : decode (hs_code 227) 81 = .ok (.ireturn, 1) := by decide +kernel
theorem d227_82 : decode (hs_code 227) 82 = .ok (.aload_n 0, 1) := by decide +kernel
theorem d227_83 : decode (hs_code 227) 83 = .ok (.getfield 44, 3) := by decide +kernel
theorem d227_86 : decode (hs_code 227) 86 = .ok (.bipush 124, 2) := by decide +kernel
theorem d227_88 : decode (hs_code 227) 88 = .ok (.iload_n 1, 1) := by decide +kernel
theorem d227_89 : decode (hs_code 227) 89 = .ok (.invokestatic 233, 3) := by decide +kernel
theorem d227_92 : decode (hs_code 227) 92 = .ok (.iadd, 1) := by decide +kernel
theorem d227_93 : decode (hs_code 227) 93 = .ok (.iload_n 3, 1) := by decide +kernel
theorem d227_94 : decode (hs_code 227) 94 = .ok (.iadd, 1) := by decide +kernel
theorem d227_95 : decode (hs_code 227) 95 = .ok (.aload_n 0, 1) := by decide +kernel
theorem d227_96 : decode (hs_code 227) 96 = .ok (.getfield 121, 3) := by decide +kernel
theorem d227_99 : decode (hs_code 227) 99 = .ok (.lastore, 1) := by decide +kernel
theorem d227_100 : decode (hs_code 227) 100 = .ok (.aload_n 0, 1) := by decide +kernel
theorem d227_101 : decode (hs_code 227) 101 = .ok (.invokevirtual 214, 3) := by decide +kernel
theorem d227_104 : decode (hs_code 227) 104 = .ok (.iload_n 3, 1) := by decide +kernel
theorem d227_105 : decode (hs_code 227) 105 = .ok (.ireturn, 1) := by decide +kernel
theorem d228_0 : decode (hs_code 228) 0 = .ok (.aload_n 0, 1) := by decide +kernel
theorem d228_1 : decode (hs_code 228) 1 = .ok (.getfield 115, 3) := by decide +kernel
theorem d228_4 : decode (hs_code 228) 4 = .ok (.iconst 1, 1) := by decide +kernel
theorem d228_5 : decode (hs_code 228) 5 = .ok (.if_icmp .ne 23, 3) := by decide +kernel
theorem d228_8 : decode (hs_code 228) 8 = .ok (.aload_n 0, 1) := by decide +kernel
theorem d228_9 : decode (hs_code 228) 9 = .ok (.getfield 128, 3) := by decide +kernel
theorem d228_12 : decode (hs_code 228) 12 = .ok (.bipush 8, 2) := by decide +kernel
theorem d228_14 : decode (hs_code 228) 14 = .ok (.if_icmp .gt 14, 3) := by decide +kernel
theorem d228_17 : decode (hs_code 228) 17 = .ok (.aload_n 0, 1) := by decide +kernel
theorem d228_18 : decode (hs_code 228) 18 = .ok (.invokevirtual 201, 3) := by decide +kernel
theorem d228_21 : decode (hs_code 228) 21 = .ok (.ifCond .ne 7, 3) := by decide +kernel
theorem d228_24 : decode (hs_code 228) 24 = .ok (.iconst 1, 1) := by decide +kernel
theorem d228_25 : decode (hs_code 228) 25 = .ok (.goto 4, 3) := by decide +kernel
theorem d228_28 : decode (hs_code 228) 28 = .ok (.iconst 0, 1) := by decide +kernel
theorem d228_29 : decode (hs_code 228) 29 = .ok (.ireturn, 1) := by decide +kernel
theorem d229_0 : decode (hs_code 229) 0 = .ok (.aload_n 0, 1) := by decide +kernel
theorem d229_1 : decode (hs_code 229) 1 = .ok (.invokevirtual 156, 3) := by decide +kernel
theorem d229_4 : decode (hs_code 229) 4 = .ok (.ifCond .ne 59, 3) := by decide +kernel
theorem d229_7 : decode (hs_code 229) 7 = .ok (.aload_n 0, 1) := by decide +kernel
theorem d229_8 : decode (hs_code 229) 8 = .ok (.invokevirtual 159, 3) := by decide +kernel
theorem d229_11 : decode (hs_code 229) 11 = .ok (.ifCond .ne 52, 3) := by decide +kernel
theorem d229_14 : decode (hs_code 229) 14 = .ok (.aload_n 0, 1) := by decide +kernel
theorem d229_15 : decode (hs_code 229) 15 = .ok (.invokevirtual 162, 3) := by decide +kernel
theorem d229_18 : decode (hs_code 229) 18 = .ok (.ifCond .ne 45, 3) := by decide +kernel
theorem d229_21 : decode (hs_code 229) 21 = .ok (.aload_n 0, 1) := by decide +kernel
theorem d229_22 : decode (hs_code 229) 22 = .ok (.invokevirtual 165, 3) := by decide +kernel
theorem d229_25 : decode (hs_code 229) 25 = .ok (.ifCond .ne 38, 3) := by decide +kernel
theorem d229_28 : decode (hs_code 229) 28 = .ok (.aload_n 0, 1) := by decide +kernel
theorem d229_29 : decode (hs_code 229) 29 = .ok (.invokevirtual 168, 3) := by decide +kernel
theorem d229_32 : decode (hs_code 229) 32 = .ok (.ifCond .ne 31, 3) := by decide +kernel
theorem d229_35 : decode (hs_code 229) 35 = .ok (.aload_n 0, 1) := by decide +kernel
theorem d229_36 : decode (hs_code 229) 36 = .ok (.invokevirtual 171, 3) := by decide +kernel
theorem d229_39 : decode (hs_code 229) 39 = .ok (.ifCond .ne 24, 3) := by decide +kernel
theorem d229_42 : decode (hs_code 229) 42 = .ok (.aload_n 0, 1) := by decide +kernel
theorem d229_43 : decode (hs_code 229) 43 = .ok (.invokevirtual 174, 3) := by decide +kernel
theorem d229_46 : decode (hs_code 229) 46 = .ok (.ifCond .ne 17, 3) := by decide +kernel
theorem d229_49 : decode (hs_code 229) 49 = .ok (.aload_n 0, 1) := by decide +kernel
theorem d229_50 : decode (hs_code 229) 50 = .ok (.invokevirtual 177, 3) := by decide +kernel
theorem d229_53 : decode (hs_code 229) 53 = .ok (.ifCond .ne 10, 3) := by decide +kernel
theorem d229_56 : decode (hs_code 229) 56 = .ok (.aload_n 0, 1) := by decide +kernel
theorem d229_57 : decode (hs_code 229) 57 = .ok (.invokevirtual 180, 3) := by decide +kernel
theorem d229_60 : decode (hs_code 229) 60 = .ok (.ifCond .eq 5, 3) := by decide +kernel
theorem d229_63 : decode (hs_code 229) 63 = .ok (.iconst 1, 1) := by decide +kernel
theorem d229_64 : decode (hs_code 229) 64 = .ok (.ireturn, 1) := by decide +kernel
theorem d229_65 : decode (hs_code 229) 65 = .ok (.aload_n 0, 1) := by decide +kernel
theorem d229_66 : decode (hs_code 229) 66 = .ok (.invokevirtual 183, 3) := by decide +kernel
theorem d229_69 : decode (hs_code 229) 69 = .ok (.ifCond .ne 24, 3) := by decide +kernel
theorem d229_72 : decode (hs_code 229) 72 = .ok (.aload_n 0, 1) := by decide +kernel
theorem d229_73 : decode (hs_code 229) 73 = .ok (.invokevirtual 186, 3) := by decide +kernel
theorem d229_76 : decode (hs_code 229) 76 = .ok (.ifCond .ne 17, 3) := by decide +kernel
theorem d229_79 : decode (hs_code 229) 79 = .ok (.aload_n 0, 1) := by decide +kernel
theorem d229_80 : decode (hs_code 229) 80 = .ok (.invokevirtual 189, 3) := by decide +kernel
theorem d229_83 : decode (hs_code 229) 83 = .ok (.ifCond .ne 10, 3) := by decide +kernel
theorem d229_86 : decode (hs_code 229) 86 = .ok (.aload_n 0, 1) := by decide +kernel
theorem d229_87 : decode (hs_code 229) 87 = .ok (.invokevirtual 192, 3) := by decide +kernel
theorem d229_90 : decode (hs_code 229) 90 = .ok (.ifCond .lt 5, 3) := by decide +kernel
theorem d229_93 : decode (hs_code 229) 93 = .ok (.iconst 1, 1) := by decide +kernel
theorem d229_94 : decode (hs_code 229) 94 = .ok (.ireturn, 1) := by decide +kernel
theorem d229_95 : decode (hs_code 229) 95 = .ok (.aload_n 0, 1) := by decide +kernel
theorem d229_96 : decode (hs_code 229) 96 = .ok (.invokevirtual 152, 3) := by decide +kernel
theorem d229_99 : decode (hs_code 229) 99 = .ok (.ifCond .ge 17, 3) := by decide +kernel
theorem d229_102 : decode (hs_code 229) 102 = .ok (.aload_n 0, 1) := by decide +kernel
theorem d229_103 : decode (hs_code 229) 103 = .ok (.invokevirtual 195, 3) := by decide +kernel
theorem d229_106 : decode (hs_code 229) 106 = .ok (.ifCond .ge 10, 3) := by decide +kernel
theorem d229_109 : decode (hs_code 229) 109 = .ok (.aload_n 0, 1) := by decide +kernel
theorem d229_110 : decode (hs_code 229) 110 = .ok (.invokevirtual 198, 3) := by decide +kernel
theorem d229_113 : decode (hs_code 229) 113 = .ok (.ifCond .eq 7, 3) := by decide +kernel
theorem d229_116 : decode (hs_code 229) 116 = .ok (.iconst 1, 1) := by decide +kernel
theorem d229_117 : decode (hs_code 229) 117 = .ok (.goto 4, 3) := by decide +kernel
theorem d229_120 : decode (hs_code 229) 120 = .ok (.iconst 0, 1) := by decide +kernel
theorem d229_121 : decode (hs_code 229) 121 = .ok (.ireturn, 1) := by decide +kernel
theorem d230_0 : decode (hs_code 230) 0 = .ok (.aload_n 0, 1) := by decide +kernel
theorem d230_1 : decode (hs_code 230) 1 = .ok (.bipush 103, 2) := by decide +kernel
theorem d230_3 : decode (hs_code 230) 3 = .ok (.bipush 114, 2) := by decide +kernel
theorem d230_5 : decode (hs_code 230) 5 = .ok (.bipush 111, 2) := by decide +kernel
theorem d230_7 : decode (hs_code 230) 7 = .ok (.bipush 119, 2) := by decide +kernel
theorem d230_9 : decode (hs_code 230) 9 = .ok (.bipush 115, 2) := by decide +kernel
theorem d230_11 : decode (hs_code 230) 11 = .ok (.iconst 0, 1) := by decide +kernel
theorem d230_12 : decode (hs_code 230) 12 = .ok (.invokestatic 140, 3) := by decide +kernel
theorem d230_15 : decode (hs_code 230) 15 = .ok (.invokevirtual 144, 3) := by decide +kernel
theorem d230_18 : decode (hs_code 230) 18 = .ok (.ireturn, 1) := by decide +kernel
theorem d231_0 : decode (hs_code 231) 0 = .ok (.aload_n 0, 1) := by decide +kernel
theorem d231_1 : decode (hs_code 231) 1 = .ok (.bipush 112, 2) := by decide +kernel
theorem d231_3 : decode (hs_code 231) 3 = .ok (.bipush 97, 2) := by decide +kernel
theorem d231_5 : decode (hs_code 231) 5 = .ok (.bipush 114, 2) := by decide +kernel
theorem d231_7 : decode (hs_code 231) 7 = .ok (.bipush 116, 2) := by decide +kernel
theorem d231_9 : decode (hs_code 231) 9 = .ok (.bipush 121, 2) := by decide +kernel
theorem d231_11 : decode (hs_code 231) 11 = .ok (.iconst 0, 1) := by decide +kernel
theorem d231_12 : decode (hs_code 231) 12 = .ok (.invokestatic 140, 3) := by decide +kernel
theorem d231_15 : decode (hs_code 231) 15 = .ok (.invokevirtual 144, 3) := by decide +kernel
theorem d231_18 : decode (hs_code 231) 18 = .ok (.ireturn, 1) := by decide +kernel
theorem d232_0 : decode (hs_code 232) 0 = .ok (.aload_n 0, 1) := by decide +kernel
theorem d232_1 : decode (hs_code 232) 1 = .ok (.bipush 115, 2) := by decide +kernel
theorem d232_3 : decode (hs_code 232) 3 = .ok (.bipush 101, 2) := by decide +kernel
theorem d232_5 : decode (hs_code 232) 5 = .ok (.bipush 97, 2) := by decide +kernel
theorem d232_7 : decode (hs_code 232) 7 = .ok (.bipush 116, 2) := by decide +kernel
theorem d232_9 : decode (hs_code 232) 9 = .ok (.bipush 115, 2) := by decide +kernel
theorem d232_11 : decode (hs_code 232) 11 = .ok (.iconst 0, 1) := by decide +kernel
theorem d232_12 : decode (hs_code 232) 12 = .ok (.invokestatic 140, 3) := by decide +kernel
theorem d232_15 : decode (hs_code 232) 15 = .ok (.invokevirtual 144, 3) := by decide +kernel
theorem d232_18 : decode (hs_code 232) 18 = .ok (.ireturn, 1) := by decide +kernel
theorem d233_0 : decode (hs_code 233) 0 = .ok (.aload_n 0, 1) := by decide +kernel
theorem d233_1 : decode (hs_code 233) 1 = .ok (.bipush 119, 2) := by decide +kernel
theorem d233_3 : decode (hs_code 233) 3 = .ok (.bipush 97, 2) := by decide +kernel
theorem d233_5 : decode (hs_code 233) 5 = .ok (.bipush 110, 2) := by decide +kernel
theorem d233_7 : decode (hs_code 233) 7 = .ok (.bipush 116, 2) := by decide +kernel
theorem d233_9 : decode (hs_code 233) 9 = .ok (.bipush 115, 2) := by decide +kernel
theorem d233_11 : decode (hs_code 233) 11 = .ok (.iconst 0, 1) := by decide +kernel
theorem d233_12 : decode (hs_code 233) 12 = .ok (.invokestatic 140, 3) := by decide +kernel
theorem d233_15 : decode (hs_code 233) 15 = .ok (.invokevirtual 144, 3) := by decide +kernel
theorem d233_18 : decode (hs_code 233) 18 = .ok (.ireturn, 1) := by decide +kernel
theorem d234_0 : decode (hs_code 234) 0 = .ok (.aload_n 0, 1) := by decide +kernel
theorem d234_1 : decode (hs_code 234) 1 = .ok (.bipush 114, 2) := by decide +kernel
theorem d234_3 : decode (hs_code 234) 3 = .ok (.bipush 117, 2) := by decide +kernel
theorem d234_5 : decode (hs_code 234) 5 = .ok (.bipush 108, 2) := by decide +kernel
theorem d234_7 : decode (hs_code 234) 7 = .ok (.bipush 101, 2) := by decide +kernel
theorem d234_9 : decode (hs_code 234) 9 = .ok (.bipush 114, 2) := by decide +kernel
theorem d234_11 : decode (hs_code 234) 11 = .ok (.iconst 0, 1) := by decide +kernel
theorem d234_12 : decode (hs_code 234) 12 = .ok (.invokestatic 140, 3) := by decide +kernel
theorem d234_15 : decode (hs_code 234) 15 = .ok (.invokevirtual 144, 3) := by decide +kernel
theorem d234_18 : decode (hs_code 234) 18 = .ok (.ireturn, 1) := by decide +kernel
theorem d235_0 : decode (hs_code 235) 0 = .ok (.aload_n 0, 1) := by decide +kernel
theorem d235_1 : decode (hs_code 235) 1 = .ok (.bipush 108, 2) := by decide +kernel
theorem d235_3 : decode (hs_code 235) 3 = .ok (.bipush 105, 2) := by decide +kernel
theorem d235_5 : decode (hs_code 235) 5 = .ok (.bipush 112, 2) := by decide +kernel
theorem d235_7 : decode (hs_code 235) 7 = .ok (.iconst 0, 1) := by decide +kernel
theorem d235_8 : decode (hs_code 235) 8 = .ok (.iconst 0, 1) := by decide +kernel
theorem d235_9 : decode (hs_code 235) 9 = .ok (.iconst 0, 1) := by decide +kernel
theorem d235_10 : decode (hs_code 235) 10 = .ok (.invokestatic 140, 3) := by decide +kernel
theorem d235_13 : decode (hs_code 235) 13 = .ok (.invokevirtual 144, 3) := by decide +kernel
theorem d235_16 : decode (hs_code 235) 16 = .ok (.ireturn, 1) := by decide +kernel
theorem d236_0 : decode (hs_code 236) 0 = .ok (.aload_n 0, 1) := by decide +kernel
theorem d236_1 : decode (hs_code 236) 1 = .ok (.bipush 108, 2) := by decide +kernel
theorem d236_3 : decode (hs_code 236) 3 = .ok (.bipush 111, 2) := by decide +kernel
theorem d236_5 : decode (hs_code 236) 5 = .ok (.bipush 111, 2) := by decide +kernel
theorem d236_7 : decode (hs_code 236) 7 = .ok (.bipush 107, 2) := by decide +kernel
theorem d236_9 : decode (hs_code 236) 9 = .ok (.iconst 0, 1) := by decide +kernel
theorem d236_10 : decode (hs_code 236) 10 = .ok (.iconst 0, 1) := by decide +kernel
theorem d236_11 : decode (hs_code 236) 11 = .ok (.invokestatic 140, 3) := by decide +kernel
theorem d236_14 : decode (hs_code 236) 14 = .ok (.invokevirtual 144, 3) := by decide +kernel
theorem d236_17 : decode (hs_code 236) 17 = .ok (.ireturn, 1) := by decide +kernel
theorem d237_0 : decode (hs_code 237) 0 = .ok (.aload_n 0, 1) := by decide +kernel
theorem d237_1 : decode (hs_code 237) 1 = .ok (.bipush 98, 2) := by decide +kernel
theorem d237_3 : decode (hs_code 237) 3 = .ok (.bipush 97, 2) := by decide +kernel
theorem d237_5 : decode (hs_code 237) 5 = .ok (.bipush 114, 2) := by decide +kernel
theorem d237_7 : decode (hs_code 237) 7 = .ok (.bipush 98, 2) := by decide +kernel
theorem d237_9 : decode (hs_code 237) 9 = .ok (.bipush 101, 2) := by decide +kernel
theorem d237_11 : decode (hs_code 237) 11 = .ok (.bipush 114, 2) := by decide +kernel
theorem d237_13 : decode (hs_code 237) 13 = .ok (.invokestatic 140, 3) := by decide +kernel
theorem d237_16 : decode (hs_code 237) 16 = .ok (.invokevirtual 144, 3) := by decide +kernel
theorem d237_19 : decode (hs_code 237) 19 = .ok (.ireturn, 1) := by decide +kernel
theorem d238_0 : decode (hs_code 238) 0 = .ok (.aload_n 0, 1) := by decide +kernel
theorem d238_1 : decode (hs_code 238) 1 = .ok (.bipush 112, 2) := by decide +kernel
theorem d238_3 : decode (hs_code 238) 3 = .ok (.bipush 97, 2) := by decide +kernel
theorem d238_5 : decode (hs_code 238) 5 = .ok (.bipush 105, 2) := by decide +kernel
theorem d238_7 : decode (hs_code 238) 7 = .ok (.bipush 114, 2) := by decide +kernel
theorem d238_9 : decode (hs_code 238) 9 = .ok (.iconst 0, 1) := by decide +kernel
theorem d238_10 : decode (hs_code 238) 10 = .ok (.iconst 0, 1) := by decide +kernel
theorem d238_11 : decode (hs_code 238) 11 = .ok (.invokestatic 140, 3) := by decide +kernel
theorem d238_14 : decode (hs_code 238) 14 = .ok (.invokevirtual 144, 3) := by decide +kernel
theorem d238_17 : decode (hs_code 238) 17 = .ok (.ireturn, 1) := by decide +kernel
theorem d239_0 : decode (hs_code 239) 0 = .ok (.aload_n 0, 1) := by decide +kernel
theorem d239_1 : decode (hs_code 239) 1 = .ok (.bipush 100, 2) := by decide +kernel
theorem d239_3 : decode (hs_code 239) 3 = .ok (.bipush 111, 2) := by decide +kernel
theorem d239_5 : decode (hs_code 239) 5 = .ok (.bipush 119, 2) := by decide +kernel
theorem d239_7 : decode (hs_code 239) 7 = .ok (.bipush 110, 2) := by decide +kernel
theorem d239_9 : decode (hs_code 239) 9 = .ok (.iconst 0, 1) := by decide +kernel
theorem d239_10 : decode (hs_code 239) 10 = .ok (.iconst 0, 1) := by decide +kernel
theorem d239_11 : decode (hs_code 239) 11 = .ok (.invokestatic 140, 3) := by decide +kernel
theorem d239_14 : decode (hs_code 239) 14 = .ok (.invokevirtual 144, 3) := by decide +kernel
theorem d239_17 : decode (hs_code 239) 17 = .ok (.ifCond .eq 5, 3) := by decide +kernel
theorem d239_20 : decode (hs_code 239) 20 = .ok (.iconst 0, 1) := by decide +kernel
theorem d239_21 : decode (hs_code 239) 21 = .ok (.ireturn, 1) := by decide +kernel
theorem d239_22 : decode (hs_code 239) 22 = .ok (.aload_n 0, 1) := by decide +kernel
theorem d239_23 : decode (hs_code 239) 23 = .ok (.bipush 102, 2) := by decide +kernel
theorem d239_25 : decode (hs_code 239) 25 = .ok (.bipush 108, 2) := by decide +kernel
theorem d239_27 : decode (hs_code 239) 27 = .ok (.bipush 97, 2) := by decide +kernel
theorem d239_29 : decode (hs_code 239) 29 = .ok (.bipush 116, 2) := by decide +kernel
theorem d239_31 : decode (hs_code 239) 31 = .ok (.iconst 0, 1) := by decide +kernel
theorem d239_32 : decode (hs_code 239) 32 = .ok (.iconst 0, 1) := by decide +kernel
theorem d239_33 : decode (hs_code 239) 33 = .ok (.invokestatic 140, 3) := by decide +kernel
theorem d239_36 : decode (hs_code 239) 36 = .ok (.invokevirtual 144, 3) := by decide +kernel
theorem d239_39 : decode (hs_code 239) 39 = .ok (.ifCond .eq 5, 3) := by decide +kernel
theorem d239_42 : decode (hs_code 239) 42 = .ok (.iconst 1, 1) := by decide +kernel
theorem d239_43 : decode (hs_code 239) 43 = .ok (.ireturn, 1) := by decide +kernel
theorem d239_44 : decode (hs_code 239) 44 = .ok (.aload_n 0, 1) := by decide +kernel
theorem d239_45 : decode (hs_code 239) 45 = .ok (.bipush 117, 2) := by decide +kernel
theorem d239_47 : decode (hs_code 239) 47 = .ok (.bipush 112, 2) := by decide +kernel
theorem d239_49 : decode (hs_code 239) 49 = .ok (.iconst 0, 1) := by decide +kernel
theorem d239_50 : decode (hs_code 239) 50 = .ok (.iconst 0, 1) := by decide +kernel
theorem d239_51 : decode (hs_code 239) 51 = .ok (.iconst 0, 1) := by decide +kernel
theorem d239_52 : decode (hs_code 239) 52 = .ok (.iconst 0, 1) := by decide +kernel
theorem d239_53 : decode (hs_code 239) 53 = .ok (.invokestatic 140, 3) := by decide +kernel
theorem d239_56 : decode (hs_code 239) 56 = .ok (.invokevirtual 144, 3) := by decide +kernel
theorem d239_59 : decode (hs_code 239) 59 = .ok (.ifCond .eq 5, 3) := by decide +kernel
theorem d239_62 : decode (hs_code 239) 62 = .ok (.iconst 2, 1) := by decide +kernel
theorem d239_63 : decode (hs_code 239) 63 = .ok (.ireturn, 1) := by decide +kernel
theorem d239_64 : decode (hs_code 239) 64 = .ok (.aload_n 0, 1) := by decide +kernel
theorem d239_65 : decode (hs_code 239) 65 = .ok (.bipush 101, 2) := by decide +kernel
theorem d239_67 : decode (hs_code 239) 67 = .ok (.bipush 105, 2) := by decide +kernel
theorem d239_69 : decode (hs_code 239) 69 = .ok (.bipush 116, 2) := by decide +kernel
theorem d239_71 : decode (hs_code 239) 71 = .ok (.bipush 104, 2) := by decide +kernel
theorem d239_73 : decode (hs_code 239) 73 = .ok (.bipush 101, 2) := by decide +kernel
theorem d239_75 : decode (hs_code 239) 75 = .ok (.bipush 114, 2) := by decide +kernel
theorem d239_77 : decode (hs_code 239) 77 = .ok (.invokestatic 140, 3) := by decide +kernel
theorem d239_80 : decode (hs_code 239) 80 = .ok (.invokevirtual 144, 3) := by decide +kernel
theorem d239_83 : decode (hs_code 239) 83 = .ok (.ifCond .eq 7, 3) := by decide +kernel
theorem d239_86 : decode (hs_code 239) 86 = .ok (.iconst 3, 1) := by decide +kernel
theorem d239_87 : decode (hs_code 239) 87 = .ok (.goto 4, 3) := by decide +kernel
theorem d239_90 : decode (hs_code 239) 90 = .ok (.iconst (-1), 1) := by decide +kernel
theorem d239_91 : decode (hs_code 239) 91 = .ok (.ireturn, 1) := by decide +kernel
theorem d240_0 : decode (hs_code 240) 0 = .ok (.aload_n 0, 1) := by decide +kernel
theorem d240_1 : decode (hs_code 240) 1 = .ok (.bipush 100, 2) := by decide +kernel
theorem d240_3 : decode (hs_code 240) 3 = .ok (.bipush 97, 2) := by decide +kernel
theorem d240_5 : decode (hs_code 240) 5 = .ok (.bipush 121, 2) := by decide +kernel
theorem d240_7 : decode (hs_code 240) 7 = .ok (.iconst 0, 1) := by decide +kernel
theorem d240_8 : decode (hs_code 240) 8 = .ok (.iconst 0, 1) := by decide +kernel
theorem d240_9 : decode (hs_code 240) 9 = .ok (.iconst 0, 1) := by decide +kernel
theorem d240_10 : decode (hs_code 240) 10 = .ok (.invokestatic 140, 3) := by decide +kernel
theorem d240_13 : decode (hs_code 240) 13 = .ok (.invokevirtual 144, 3) := by decide +kernel
theorem d240_16 : decode (hs_code 240) 16 = .ok (.ifCond .eq 5, 3) := by decide +kernel
theorem d240_19 : decode (hs_code 240) 19 = .ok (.iconst 0, 1) := by decide +kernel
theorem d240_20 : decode (hs_code 240) 20 = .ok (.ireturn, 1) := by decide +kernel
theorem d240_21 : decode (hs_code 240) 21 = .ok (.aload_n 0, 1) := by decide +kernel
theorem d240_22 : decode (hs_code 240) 22 = .ok (.bipush 112, 2) := by decide +kernel
theorem d240_24 : decode (hs_code 240) 24 = .ok (.bipush 101, 2) := by decide +kernel
theorem d240_26 : decode (hs_code 240) 26 = .ok (.bipush 97, 2) := by decide +kernel
theorem d240_28 : decode (hs_code 240) 28 = .ok (.bipush 99, 2) := by decide +kernel
theorem d240_30 : decode (hs_code 240) 30 = .ok (.bipush 101, 2) := by decide +kernel
theorem d240_32 : decode (hs_code 240) 32 = .ok (.iconst 0, 1) := by decide +kernel
theorem d240_33 : decode (hs_code 240) 33 = .ok (.invokestatic 140, 3) := by decide +kernel
theorem d240_36 : decode (hs_code 240) 36 = .ok (.invokevirtual 144, 3) := by decide +kernel
theorem d240_39 : decode (hs_code 240) 39 = .ok (.ifCond .eq 5, 3) := by decide +kernel
theorem d240_42 : decode (hs_code 240) 42 = .ok (.iconst 1, 1) := by decide +kernel
theorem d240_43 : decode (hs_code 240) 43 = .ok (.ireturn, 1) := by decide +kernel
theorem d240_44 : decode (hs_code 240) 44 = .ok (.aload_n 0, 1) := by decide +kernel
theorem d240_45 : decode (hs_code 240) 45 = .ok (.bipush 119, 2) := by decide +kernel
theorem d240_47 : decode (hs_code 240) 47 = .ok (.bipush 97, 2) := by decide +kernel
theorem d240_49 : decode (hs_code 240) 49 = .ok (.bipush 114, 2) := by decide +kernel
theorem d240_51 : decode (hs_code 240) 51 = .ok (.iconst 0, 1) := by decide +kernel
theorem d240_52 : decode (hs_code 240) 52 = .ok (.iconst 0, 1) := by decide +kernel
theorem d240_53 : decode (hs_code 240) 53 = .ok (.iconst 0, 1) := by decide +kernel
theorem d240_54 : decode (hs_code 240) 54 = .ok (.invokestatic 140, 3) := by decide +kernel
theorem d240_57 : decode (hs_code 240) 57 = .ok (.invokevirtual 144, 3) := by decide +kernel
theorem d240_60 : decode (hs_code 240) 60 = .ok (.ifCond .eq 5, 3) := by decide +kernel
theorem d240_63 : decode (hs_code 240) 63 = .ok (.iconst 2, 1) := by decide +kernel
theorem d240_64 : decode (hs_code 240) 64 = .ok (.ireturn, 1) := by decide +kernel
theorem d240_65 : decode (hs_code 240) 65 = .ok (.aload_n 0, 1) := by decide +kernel
theorem d240_66 : decode (hs_code 240) 66 = .ok (.bipush 119, 2) := by decide +kernel
theorem d240_68 : decode (hs_code 240) 68 = .ok (.bipush 97, 2) := by decide +kernel
theorem d240_70 : decode (hs_code 240) 70 = .ok (.bipush 120, 2) := by decide +kernel
theorem d240_72 : decode (hs_code 240) 72 = .ok (.iconst 0, 1) := by decide +kernel
theorem d240_73 : decode (hs_code 240) 73 = .ok (.iconst 0, 1) := by decide +kernel
theorem d240_74 : decode (hs_code 240) 74 = .ok (.iconst 0, 1) := by decide +kernel
theorem d240_75 : decode (hs_code 240) 75 = .ok (.invokestatic 140, 3) := by decide +kernel
theorem d240_78 : decode (hs_code 240) 78 = .ok (.invokevirtual 144, 3) := by decide +kernel
theorem d240_81 : decode (hs_code 240) 81 = .ok (.ifCond .eq 5, 3) := by decide +kernel
theorem d240_84 : decode (hs_code 240) 84 = .ok (.iconst 3, 1) := by decide +kernel
theorem d240_85 : decode (hs_code 240) 85 = .ok (.ireturn, 1) := by decide +kernel
theorem d240_86 : decode (hs_code 240) 86 = .ok (.aload_n 0, 1) := by decide +kernel
theorem d240_87 : decode (hs_code 240) 87 = .ok (.bipush 116, 2) := by decide +kernel
theorem d240_89 : decode (hs_code 240) 89 = .ok (.bipush 114, 2) := by decide +kernel
theorem d240_91 : decode (hs_code 240) 91 = .ok (.bipush 105, 2) := by decide +kernel
theorem d240_93 : decode (hs_code 240) 93 = .ok (.bipush 109, 2) := by decide +kernel
theorem d240_95 : decode (hs_code 240) 95 = .ok (.iconst 0, 1) := by decide +kernel
theorem d240_96 : decode (hs_code 240) 96 = .ok (.iconst 0, 1) := by decide +kernel
theorem d240_97 : decode (hs_code 240) 97 = .ok (.invokestatic 140, 3) := by decide +kernel
theorem d240_100 : decode (hs_code 240) 100 = .ok (.invokevirtual 144, 3) := by decide +kernel
theorem d240_103 : decode (hs_code 240) 103 = .ok (.ifCond .eq 5, 3) := by decide +kernel
theorem d240_106 : decode (hs_code 240) 106 = .ok (.iconst 4, 1) := by decide +kernel
theorem d240_107 : decode (hs_code 240) 107 = .ok (.ireturn, 1) := by decide +kernel
theorem d240_108 : decode (hs_code 240) 108 = .ok (.aload_n 0, 1) := by decide +kernel
theorem d240_109 : decode (hs_code 240) 109 = .ok (.bipush 118, 2) := by decide +kernel
theorem d240_111 : decode (hs_code 240) 111 = .ok (.bipush 111, 2) := by decide +kernel
theorem d240_113 : decode (hs_code 240) 113 = .ok (.bipush 116, 2) := by decide +kernel
theorem d240_115 : decode (hs_code 240) 115 = .ok (.bipush 101, 2) := by decide +kernel
theorem d240_117 : decode (hs_code 240) 117 = .ok (.iconst 0, 1) := by decide +kernel
theorem d240_118 : decode (hs_code 240) 118 = .ok (.iconst 0, 1) := by decide +kernel
theorem d240_119 : decode (hs_code 240) 119 = .ok (.invokestatic 140, 3) := by decide +kernel
theorem d240_122 : decode (hs_code 240) 122 = .ok (.invokevirtual 144, 3) := by decide +kernel
theorem d240_125 : decode (hs_code 240) 125 = .ok (.ifCond .eq 5, 3) := by decide +kernel
theorem d240_128 : decode (hs_code 240) 128 = .ok (.iconst 5, 1) := by decide +kernel
theorem d240_129 : decode (hs_code 240) 129 = .ok (.ireturn, 1) := by decide +kernel
theorem d240_130 : decode (hs_code 240) 130 = .ok (.aload_n 0, 1) := by decide +kernel
theorem d240_131 : decode (hs_code 240) 131 = .ok (.bipush 104, 2) := by decide +kernel
theorem d240_133 : decode (hs_code 240) 133 = .ok (.bipush 97, 2) := by decide +kernel
theorem d240_135 : decode (hs_code 240) 135 = .ok (.bipush 110, 2) := by decide +kernel
theorem d240_137 : decode (hs_code 240) 137 = .ok (.bipush 100, 2) := by decide +kernel
theorem d240_139 : decode (hs_code 240) 139 = .ok (.iconst 0, 1) := by decide +kernel
theorem d240_140 : decode (hs_code 240) 140 = .ok (.iconst 0, 1) := by decide +kernel
theorem d240_141 : decode (hs_code 240) 141 = .ok (.invokestatic 140, 3) := by decide +kernel
theorem d240_144 : decode (hs_code 240) 144 = .ok (.invokevirtual 144, 3) := by decide +kernel
theorem d240_147 : decode (hs_code 240) 147 = .ok (.ifCond .eq 6, 3) := by decide +kernel
theorem d240_150 : decode (hs_code 240) 150 = .ok (.bipush 6, 2) := by decide +kernel
theorem d240_152 : decode (hs_code 240) 152 = .ok (.ireturn, 1) := by decide +kernel
theorem d240_153 : decode (hs_code 240) 153 = .ok (.aload_n 0, 1) := by decide +kernel
theorem d240_154 : decode (hs_code 240) 154 = .ok (.bipush 97, 2) := by decide +kernel
theorem d240_156 : decode (hs_code 240) 156 = .ok (.bipush 110, 2) := by decide +kernel
theorem d240_158 : decode (hs_code 240) 158 = .ok (.bipush 121, 2) := by decide +kernel
theorem d240_160 : decode (hs_code 240) 160 = .ok (.iconst 0, 1) := by decide +kernel
theorem d240_161 : decode (hs_code 240) 161 = .ok (.iconst 0, 1) := by decide +kernel
theorem d240_162 : decode (hs_code 240) 162 = .ok (.iconst 0, 1) := by decide +kernel
theorem d240_163 : decode (hs_code 240) 163 = .ok (.invokestatic 140, 3) := by decide +kernel
theorem d240_166 : decode (hs_code 240) 166 = .ok (.invokevirtual 144, 3) := by decide +kernel
theorem d240_169 : decode (hs_code 240) 169 = .ok (.ifCond .eq 6, 3) := by decide +kernel
theorem d240_172 : decode (hs_code 240) 172 = .ok (.bipush 7, 2) := by decide +kernel
theorem d240_174 : decode (hs_code 240) 174 = .ok (.ireturn, 1) := by decide +kernel
theorem d240_175 : decode (hs_code 240) 175 = .ok (.aload_n 0, 1) := by decide +kernel
theorem d240_176 : decode (hs_code 240) 176 = .ok (.bipush 119, 2) := by decide +kernel
theorem d240_178 : decode (hs_code 240) 178 = .ok (.bipush 104, 2) := by decide +kernel
theorem d240_180 : decode (hs_code 240) 180 = .ok (.bipush 101, 2) := by decide +kernel
theorem d240_182 : decode (hs_code 240) 182 = .ok (.bipush 110, 2) := by decide +kernel
theorem d240_184 : decode (hs_code 240) 184 = .ok (.iconst 0, 1) := by decide +kernel
theorem d240_185 : decode (hs_code 240) 185 = .ok (.iconst 0, 1) := by decide +kernel
theorem d240_186 : decode (hs_code 240) 186 = .ok (.invokestatic 140, 3) := by decide +kernel
theorem d240_189 : decode (hs_code 240) 189 = .ok (.invokevirtual 144, 3) := by decide +kernel
theorem d240_192 : decode (hs_code 240) 192 = .ok (.ifCond .eq 6, 3) := by decide +kernel
theorem d240_195 : decode (hs_code 240) 195 = .ok (.bipush 8, 2) := by decide +kernel
theorem d240_197 : decode (hs_code 240) 197 = .ok (.ireturn, 1) := by decide +kernel
theorem d240_198 : decode (hs_code 240) 198 = .ok (.aload_n 0, 1) := by decide +kernel
theorem d240_199 : decode (hs_code 240) 199 = .ok (.bipush 108, 2) := by decide +kernel
theorem d240_201 : decode (hs_code 240) 201 = .ok (.bipush 111, 2) := by decide +kernel
theorem d240_203 : decode (hs_code 240) 203 = .ok (.bipush 111, 2) := by decide +kernel
theorem d240_205 : decode (hs_code 240) 205 = .ok (.bipush 112, 2) := by decide +kernel
theorem d240_207 : decode (hs_code 240) 207 = .ok (.iconst 0, 1) := by decide +kernel
theorem d240_208 : decode (hs_code 240) 208 = .ok (.iconst 0, 1) := by decide +kernel
theorem d240_209 : decode (hs_code 240) 209 = .ok (.invokestatic 140, 3) := by decide +kernel
theorem d240_212 : decode (hs_code 240) 212 = .ok (.invokevirtual 144, 3) := by decide +kernel
theorem d240_215 : decode (hs_code 240) 215 = .ok (.ifCond .eq 6, 3) := by decide +kernel
theorem d240_218 : decode (hs_code 240) 218 = .ok (.bipush 9, 2) := by decide +kernel
theorem d240_220 : decode (hs_code 240) 220 = .ok (.ireturn, 1) := by decide +kernel
theorem d240_221 : decode (hs_code 240) 221 = .ok (.aload_n 0, 1) := by decide +kernel
theorem d240_222 : decode (hs_code 240) 222 = .ok (.bipush 115, 2) := by decide +kernel
theorem d240_224 : decode (hs_code 240) 224 = .ok (.bipush 116, 2) := by decide +kernel
theorem d240_226 : decode (hs_code 240) 226 = .ok (.bipush 111, 2) := by decide +kernel
theorem d240_228 : decode (hs_code 240) 228 = .ok (.bipush 112, 2) := by decide +kernel
theorem d240_230 : decode (hs_code 240) 230 = .ok (.iconst 0, 1) := by decide +kernel
theorem d240_231 : decode (hs_code 240) 231 = .ok (.iconst 0, 1) := by decide +kernel
theorem d240_232 : decode (hs_code 240) 232 = .ok (.invokestatic 140, 3) := by decide +kernel
theorem d240_235 : decode (hs_code 240) 235 = .ok (.invokevirtual 144, 3) := by decide +kernel
theorem d240_238 : decode (hs_code 240) 238 = .ok (.ifCond .eq 8, 3) := by decide +kernel
theorem d240_241 : decode (hs_code 240) 241 = .ok (.bipush 10, 2) := by decide +kernel
theorem d240_243 : decode (hs_code 240) 243 = .ok (.goto 4, 3) := by decide +kernel
theorem d240_246 : decode (hs_code 240) 246 = .ok (.iconst (-1), 1) := by decide +kernel
theorem d240_247 : decode (hs_code 240) 247 = .ok (.ireturn, 1) := by decide +kernel
theorem d241_0 : decode (hs_code 241) 0 = .ok (.aload_n 0, 1) := by decide +kernel
theorem d241_1 : decode (hs_code 241) 1 = .ok (.bipush 115, 2) := by decide +kernel
theorem d241_3 : decode (hs_code 241) 3 = .ok (.bipush 104, 2) := by decide +kernel
theorem d241_5 : decode (hs_code 241) 5 = .ok (.bipush 111, 2) := by decide +kernel
theorem d241_7 : decode (hs_code 241) 7 = .ok (.bipush 119, 2) := by decide +kernel
theorem d241_9 : decode (hs_code 241) 9 = .ok (.bipush 115, 2) := by decide +kernel
theorem d241_11 : decode (hs_code 241) 11 = .ok (.iconst 0, 1) := by decide +kernel
theorem d241_12 : decode (hs_code 241) 12 = .ok (.invokestatic 140, 3) := by decide +kernel
theorem d241_15 : decode (hs_code 241) 15 = .ok (.invokevirtual 144, 3) := by decide +kernel
theorem d241_18 : decode (hs_code 241) 18 = .ok (.ifCond .eq 5, 3) := by decide +kernel
theorem d241_21 : decode (hs_code 241) 21 = .ok (.iconst 0, 1) := by decide +kernel
theorem d241_22 : decode (hs_code 241) 22 = .ok (.ireturn, 1) := by decide +kernel
theorem d241_23 : decode (hs_code 241) 23 = .ok (.aload_n 0, 1) := by decide +kernel
theorem d241_24 : decode (hs_code 241) 24 = .ok (.invokevirtual 148, 3) := by decide +kernel
theorem d241_27 : decode (hs_code 241) 27 = .ok (.ifCond .eq 7, 3) := by decide +kernel
theorem d241_30 : decode (hs_code 241) 30 = .ok (.iconst 1, 1) := by decide +kernel
theorem d241_31 : decode (hs_code 241) 31 = .ok (.goto 16, 3) := by decide +kernel
theorem d241_34 : decode (hs_code 241) 34 = .ok (.aload_n 0, 1) := by decide +kernel
theorem d241_35 : decode (hs_code 241) 35 = .ok (.invokevirtual 152, 3) := by decide +kernel
theorem d241_38 : decode (hs_code 241) 38 = .ok (.iconst 1, 1) := by decide +kernel
theorem d241_39 : decode (hs_code 241) 39 = .ok (.if_icmp .ne 7, 3) := by decide +kernel
theorem d241_42 : decode (hs_code 241) 42 = .ok (.iconst 2, 1) := by decide +kernel
theorem d241_43 : decode (hs_code 241) 43 = .ok (.goto 4, 3) := by decide +kernel
theorem d241_46 : decode (hs_code 241) 46 = .ok (.iconst (-1), 1) := by decide +kernel
theorem d241_47 : decode (hs_code 241) 47 = .ok (.ireturn, 1) := by decide +kernel
theorem d242_0 : decode (hs_code 242) 0 = .ok (.aload_n 0, 1) := by decide +kernel
theorem d242_1 : decode (hs_code 242) 1 = .ok (.bipush 108, 2) := by decide +kernel
theorem d242_3 : decode (hs_code 242) 3 = .ok (.bipush 101, 2) := by decide +kernel
theorem d242_5 : decode (hs_code 242) 5 = .ok (.bipush 110, 2) := by decide +kernel
theorem d242_7 : decode (hs_code 242) 7 = .ok (.bipush 103, 2) := by decide +kernel
theorem d242_9 : decode (hs_code 242) 9 = .ok (.bipush 116, 2) := by decide +kernel
theorem d242_11 : decode (hs_code 242) 11 = .ok (.bipush 104, 2) := by decide +kernel
theorem d242_13 : decode (hs_code 242) 13 = .ok (.invokestatic 140, 3) := by decide +kernel
theorem d242_16 : decode (hs_code 242) 16 = .ok (.invokevirtual 144, 3) := by decide +kernel
theorem d242_19 : decode (hs_code 242) 19 = .ok (.ireturn, 1) := by decide +kernel
theorem d243_0 : decode (hs_code 243) 0 = .ok (.aload_n 0, 1) := by decide +kernel
theorem d243_1 : decode (hs_code 243) 1 = .ok (.bipush 101, 2) := by decide +kernel
theorem d243_3 : decode (hs_code 243) 3 = .ok (.bipush 110, 2) := by decide +kernel
theorem d243_5 : decode (hs_code 243) 5 = .ok (.bipush 100, 2) := by decide +kernel
theorem d243_7 : decode (hs_code 243) 7 = .ok (.iconst 0, 1) := by decide +kernel
theorem d243_8 : decode (hs_code 243) 8 = .ok (.iconst 0, 1) := by decide +kernel
theorem d243_9 : decode (hs_code 243) 9 = .ok (.iconst 0, 1) := by decide +kernel
theorem d243_10 : decode (hs_code 243) 10 = .ok (.invokestatic 140, 3) := by decide +kernel
theorem d243_13 : decode (hs_code 243) 13 = .ok (.invokevirtual 144, 3) := by decide +kernel
theorem d243_16 : decode (hs_code 243) 16 = .ok (.ireturn, 1) := by decide +kernel
theorem d244_0 : decode (hs_code 244) 0 = .ok (.iconst 0, 1) := by decide +kernel
theorem d244_1 : decode (hs_code 244) 1 = .ok (.istore_n 1, 1) := by decide +kernel
theorem d244_2 : decode (hs_code 244) 2 = .ok (.iload_n 1, 1) := by decide +kernel
theorem d244_3 : decode (hs_code 244) 3 = .ok (.iconst 5, 1) := by decide +kernel
theorem d244_4 : decode (hs_code 244) 4 = .ok (.if_icmp .ge 20, 3) := by decide +kernel
theorem d244_7 : decode (hs_code 244) 7 = .ok (.aload_n 0, 1) := by decide +kernel
theorem d244_8 : decode (hs_code 244) 8 = .ok (.iconst 4, 1) := by decide +kernel
theorem d244_9 : decode (hs_code 244) 9 = .ok (.iload_n 1, 1) := by decide +kernel
theorem d244_10 : decode (hs_code 244) 10 = .ok (.invokevirtual 236, 3) := by decide +kernel
theorem d244_13 : decode (hs_code 244) 13 = .ok (.ifCond .lt 5, 3) := by decide +kernel
theorem d244_16 : decode (hs_code 244) 16 = .ok (.iconst 1, 1) := by decide +kernel
theorem d244_17 : decode (hs_code 244) 17 = .ok (.ireturn, 1) := by decide +kernel
theorem d244_18 : decode (hs_code 244) 18 = .ok (.iinc 1 1, 3) := by decide +kernel
theorem d244_21 : decode (hs_code 244) 21 = .ok (.goto (-19), 3) := by decide +kernel
theorem d244_24 : decode (hs_code 244) 24 = .ok (.iconst 0, 1) := by decide +kernel
theorem d244_25 : decode (hs_code 244) 25 = .ok (.ireturn, 1) := by decide +kernel
theorem d245_0 : decode (hs_code 245) 0 = .ok (.iconst 0, 1) := by decide +kernel
theorem d245_1 : decode (hs_code 245) 1 = .ok (.istore_n 3, 1) := by decide +kernel
theorem d245_2 : decode (hs_code 245) 2 = .ok (.iload_n 3, 1) := by decide +kernel
theorem d245_3 : decode (hs_code 245) 3 = .ok (.aload_n 0, 1) := by decide +kernel
theorem d245_4 : decode (hs_code 245) 4 = .ok (.getfield 35, 3) := by decide +kernel
theorem d245_7 : decode (hs_code 245) 7 = .ok (.sipush 399, 3) := by decide +kernel
theorem d245_10 : decode (hs_code 245) 10 = .ok (.iload_n 1, 1) := by decide +kernel
theorem d245_11 : decode (hs_code 245) 11 = .ok (.imul, 1) := by decide +kernel
theorem d245_12 : decode (hs_code 245) 12 = .ok (.iload_n 2, 1) := by decide +kernel
theorem d245_13 : decode (hs_code 245) 13 = .ok (.iadd, 1) := by decide +kernel
theorem d245_14 : decode (hs_code 245) 14 = .ok (.iaload, 1) := by decide +kernel
theorem d245_15 : decode (hs_code 245) 15 = .ok (.if_icmp .ge 35, 3) := by decide +kernel
theorem d245_18 : decode (hs_code 245) 18 = .ok (.aload_n 0, 1) := by decide +kernel
theorem d245_19 : decode (hs_code 245) 19 = .ok (.getfield 44, 3) := by decide +kernel
theorem d245_22 : decode (hs_code 245) 22 = .ok (.bipush 31, 2) := by decide +kernel
theorem d245_24 : decode (hs_code 245) 24 = .ok (.iload_n 1, 1) := by decide +kernel
theorem d245_25 : decode (hs_code 245) 25 = .ok (.imul, 1) := by decide +kernel
theorem d245_26 : decode (hs_code 245) 26 = .ok (.iload_n 2, 1) := by decide +kernel
theorem d245_27 : decode (hs_code 245) 27 = .ok (.invokestatic 233, 3) := by decide +kernel
theorem d245_30 : decode (hs_code 245) 30 = .ok (.iadd, 1) := by decide +kernel
theorem d245_31 : decode (hs_code 245) 31 = .ok (.iload_n 3, 1) := by decide +kernel
theorem d245_32 : decode (hs_code 245) 32 = .ok (.iadd, 1) := by decide +kernel
theorem d245_33 : decode (hs_code 245) 33 = .ok (.laload, 1) := by decide +kernel
theorem d245_34 : decode (hs_code 245) 34 = .ok (.aload_n 0, 1) := by decide +kernel
theorem d245_35 : decode (hs_code 245) 35 = .ok (.getfield 121, 3) := by decide +kernel
theorem d245_38 : decode (hs_code 245) 38 = .ok (.lcmp, 1) := by decide +kernel
theorem d245_39 : decode (hs_code 245) 39 = .ok (.ifCond .ne 5, 3) := by decide +kernel
theorem d245_42 : decode (hs_code 245) 42 = .ok (.iload_n 3, 1) := by decide +kernel
theorem d245_43 : decode (hs_code 245) 43 = .ok (.ireturn, 1) := by decide +kernel
theorem d245_44 : decode (hs_code 245) 44 = .ok (.iinc 3 1, 3) := by decide +kernel
theorem d245_47 : decode (hs_code 245) 47 = .ok (.goto (-45), 3) := by decide +kernel
theorem d245_50 : decode (hs_code 245) 50 = .ok (.iconst (-1), 1) := by decide +kernel
theorem d245_51 : decode (hs_code 245) 51 = .ok (.ireturn, 1) := by decide +kernel
theorem d246_0 : decode (hs_code 246) 0 = .ok (.iload_n 0, 1) := by decide +kernel
theorem d246_1 : decode (hs_code 246) 1 = .ok (.ifCond .ne 7, 3) := by decide +kernel
theorem d246_4 : decode (hs_code 246) 4 = .ok (.iconst 0, 1) := by decide +kernel
theorem d246_5 : decode (hs_code 246) 5 = .ok (.goto 19, 3) := by decide +kernel
theorem d246_8 : decode (hs_code 246) 8 = .ok (.iload_n 0, 1) := by decide +kernel
theorem d246_9 : decode (hs_code 246) 9 = .ok (.iconst 1, 1) := by decide +kernel
theorem d246_10 : decode (hs_code 246) 10 = .ok (.if_icmp .ne 8, 3) := by decide +kernel
theorem d246_13 : decode (hs_code 246) 13 = .ok (.bipush 8, 2) := by decide +kernel
theorem d246_15 : decode (hs_code 246) 15 = .ok (.goto 9, 3) := by decide +kernel
theorem d246_18 : decode (hs_code 246) 18 = .ok (.bipush 6, 2) := by decide +kernel
theorem d246_20 : decode (hs_code 246) 20 = .ok (.iload_n 0, 1) := by decide +kernel
theorem d246_21 : decode (hs_code 246) 21 = .ok (.imul, 1) := by decide +kernel
theorem d246_22 : decode (hs_code 246) 22 = .ok (.iconst 1, 1) := by decide +kernel
theorem d246_23 : decode (hs_code 246) 23 = .ok (.iadd, 1) := by decide +kernel
theorem d246_24 : decode (hs_code 246) 24 = .ok (.ireturn, 1) := by decide +kernel
theorem d247_0 : decode (hs_code 247) 0 = .ok (.aload_n 0, 1) := by decide +kernel
theorem d247_1 : decode (hs_code 247) 1 = .ok (.iload_n 1, 1) := by decide +kernel
theorem d247_2 : decode (hs_code 247) 2 = .ok (.invokevirtual 220, 3) := by decide +kernel
theorem d247_5 : decode (hs_code 247) 5 = .ok (.aload_n 0, 1) := by decide +kernel
theorem d247_6 : decode (hs_code 247) 6 = .ok (.iload_n 2, 1) := by decide +kernel
theorem d247_7 : decode (hs_code 247) 7 = .ok (.iload_n 3, 1) := by decide +kernel
theorem d247_8 : decode (hs_code 247) 8 = .ok (.invokevirtual 224, 3) := by decide +kernel
theorem d247_11 : decode (hs_code 247) 11 = .ok (.ireturn, 1) := by decide +kernel
theorem d248_0 : decode (hs_code 248) 0 = .ok (.aload_n 0, 1) := by decide +kernel
theorem d248_1 : decode (hs_code 248) 1 = .ok (.getfield 204, 3) := by decide +kernel
theorem d248_4 : decode (hs_code 248) 4 = .ok (.ifCond .le 4, 3) := by decide +kernel
theorem d248_7 : decode (hs_code 248) 7 = .ok (.return_, 1) := by decide +kernel
theorem d248_8 : decode (hs_code 248) 8 = .ok (.iload_n 1, 1) := by decide +kernel
theorem d248_9 : decode (hs_code 248) 9 = .ok (.ifCond .eq 10, 3) := by decide +kernel
theorem d248_12 : decode (hs_code 248) 12 = .ok (.aload_n 0, 1) := by decide +kernel
theorem d248_13 : decode (hs_code 248) 13 = .ok (.invokevirtual 214, 3) := by decide +kernel
theorem d248_16 : decode (hs_code 248) 16 = .ok (.goto 7, 3) := by decide +kernel
theorem d248_19 : decode (hs_code 248) 19 = .ok (.aload_n 0, 1) := by decide +kernel
theorem d248_20 : decode (hs_code 248) 20 = .ok (.invokevirtual 217, 3) := by decide +kernel
theorem d248_23 : decode (hs_code 248) 23 = .ok (.return_, 1) := by decide +kernel
theorem d249_0 : decode (hs_code 249) 0 = .ok (.aload_n 0, 1) := by decide +kernel
theorem d249_1 : decode (hs_code 249) 1 = .ok (.getfield 204, 3) := by decide +kernel
theorem d249_4 : decode (hs_code 249) 4 = .ok (.ifCond .gt 7, 3) := by decide +kernel
theorem d249_7 : decode (hs_code 249) 7 = .ok (.iload_n 1, 1) := by decide +kernel
theorem d249_8 : decode (hs_code 249) 8 = .ok (.ifCond .ne 5, 3) := by decide +kernel
theorem d249_11 : decode (hs_code 249) 11 = .ok (.iconst 0, 1) := by decide +kernel
theorem d249_12 : decode (hs_code 249) 12 = .ok (.ireturn, 1) := by decide +kernel
theorem d249_13 : decode (hs_code 249) 13 = .ok (.aload_n 0, 1) := by decide +kernel
theorem d249_14 : decode (hs_code 249) 14 = .ok (.invokevirtual 214, 3) := by decide +kernel
theorem d249_17 : decode (hs_code 249) 17 = .ok (.iconst 1, 1) := by decide +kernel
theorem d249_18 : decode (hs_code 249) 18 = .ok (.ireturn, 1) := by decide +kernel
theorem d250_0 : decode (hs_code 250) 0 = .ok (.aload_n 0, 1) := by decide +kernel
theorem d250_1 : decode (hs_code 250) 1 = .ok (.iconst 1, 1) := by decide +kernel
theorem d250_2 : decode (hs_code 250) 2 = .ok (.iconst 5, 1) := by decide +kernel
theorem d250_3 : decode (hs_code 250) 3 = .ok (.invokevirtual 254, 3) := by decide +kernel
theorem d250_6 : decode (hs_code 250) 6 = .ok (.istore_n 1, 1) := by decide +kernel
theorem d250_7 : decode (hs_code 250) 7 = .ok (.aload_n 0, 1) := by decide +kernel
theorem d250_8 : decode (hs_code 250) 8 = .ok (.aload_n 0, 1) := by decide +kernel
theorem d250_9 : decode (hs_code 250) 9 = .ok (.invokevirtual 171, 3) := by decide +kernel
theorem d250_12 : decode (hs_code 250) 12 = .ok (.iconst 1, 1) := by decide +kernel
theorem d250_13 : decode (hs_code 250) 13 = .ok (.bipush 99, 2) := by decide +kernel
theorem d250_15 : decode (hs_code 250) 15 = .ok (.invokevirtual 257, 3) := by decide +kernel
theorem d250_18 : decode (hs_code 250) 18 = .ok (.istore_n 2, 1) := by decide +kernel
theorem d250_19 : decode (hs_code 250) 19 = .ok (.aload_n 0, 1) := by decide +kernel
theorem d250_20 : decode (hs_code 250) 20 = .ok (.aload_n 0, 1) := by decide +kernel
theorem d250_21 : decode (hs_code 250) 21 = .ok (.invokevirtual 174, 3) := by decide +kernel
theorem d250_24 : decode (hs_code 250) 24 = .ok (.iconst 0, 1) := by decide +kernel
theorem d250_25 : decode (hs_code 250) 25 = .ok (.bipush 99, 2) := by decide +kernel
theorem d250_27 : decode (hs_code 250) 27 = .ok (.invokevirtual 257, 3) := by decide +kernel
theorem d250_30 : decode (hs_code 250) 30 = .ok (.istore_n 3, 1) := by decide +kernel
theorem d250_31 : decode (hs_code 250) 31 = .ok (.aload_n 0, 1) := by decide +kernel
theorem d250_32 : decode (hs_code 250) 32 = .ok (.getfield 204, 3) := by decide +kernel
theorem d250_35 : decode (hs_code 250) 35 = .ok (.ifCond .le 4, 3) := by decide +kernel
theorem d250_38 : decode (hs_code 250) 38 = .ok (.return_, 1) := by decide +kernel
theorem d250_39 : decode (hs_code 250) 39 = .ok (.aload_n 0, 1) := by decide +kernel
theorem d250_40 : decode (hs_code 250) 40 = .ok (.getfield 35, 3) := by decide +kernel
theorem d250_43 : decode (hs_code 250) 43 = .ok (.sipush 1638, 3) := by decide +kernel
theorem d250_46 : decode (hs_code 250) 46 = .ok (.iload_n 1, 1) := by decide +kernel
theorem d250_47 : decode (hs_code 250) 47 = .ok (.iadd, 1) := by decide +kernel
theorem d250_48 : decode (hs_code 250) 48 = .ok (.iload_n 2, 1) := by decide +kernel
theorem d250_49 : decode (hs_code 250) 49 = .ok (.iastore, 1) := by decide +kernel
theorem d250_50 : decode (hs_code 250) 50 = .ok (.aload_n 0, 1) := by decide +kernel
theorem d250_51 : decode (hs_code 250) 51 = .ok (.getfield 35, 3) := by decide +kernel
theorem d250_54 : decode (hs_code 250) 54 = .ok (.sipush 1643, 3) := by decide +kernel
theorem d250_57 : decode (hs_code 250) 57 = .ok (.iload_n 1, 1) := by decide +kernel
theorem d250_58 : decode (hs_code 250) 58 = .ok (.iadd, 1) := by decide +kernel
theorem d250_59 : decode (hs_code 250) 59 = .ok (.iload_n 3, 1) := by decide +kernel
theorem d250_60 : decode (hs_code 250) 60 = .ok (.iastore, 1) := by decide +kernel
theorem d250_61 : decode (hs_code 250) 61 = .ok (.aload_n 0, 1) := by decide +kernel
theorem d250_62 : decode (hs_code 250) 62 = .ok (.getfield 35, 3) := by decide +kernel
theorem d250_65 : decode (hs_code 250) 65 = .ok (.sipush 1597, 3) := by decide +kernel
theorem d250_68 : decode (hs_code 250) 68 = .ok (.dup2, 1) := by decide +kernel
theorem d250_69 : decode (hs_code 250) 69 = .ok (.iaload, 1) := by decide +kernel
theorem d250_70 : decode (hs_code 250) 70 = .ok (.iconst 1, 1) := by decide +kernel
theorem d250_71 : decode (hs_code 250) 71 = .ok (.iadd, 1) := by decide +kernel
theorem d250_72 : decode (hs_code 250) 72 = .ok (.iastore, 1) := by decide +kernel
theorem d250_73 : decode (hs_code 250) 73 = .ok (.return_, 1) := by decide +kernel
theorem d251_0 : decode (hs_code 251) 0 = .ok (.aload_n 0, 1) := by decide +kernel
theorem d251_1 : decode (hs_code 251) 1 = .ok (.iconst 2, 1) := by decide +kernel
theorem d251_2 : decode (hs_code 251) 2 = .ok (.bipush 6, 2) := by decide +kernel
theorem d251_4 : decode (hs_code 251) 4 = .ok (.invokevirtual 254, 3) := by decide +kernel
theorem d251_7 : decode (hs_code 251) 7 = .ok (.istore_n 1, 1) := by decide +kernel
theorem d251_8 : decode (hs_code 251) 8 = .ok (.aload_n 0, 1) := by decide +kernel
theorem d251_9 : decode (hs_code 251) 9 = .ok (.aload_n 0, 1) := by decide +kernel
theorem d251_10 : decode (hs_code 251) 10 = .ok (.invokevirtual 180, 3) := by decide +kernel
theorem d251_13 : decode (hs_code 251) 13 = .ok (.iconst 0, 1) := by decide +kernel
theorem d251_14 : decode (hs_code 251) 14 = .ok (.bipush 9, 2) := by decide +kernel
theorem d251_16 : decode (hs_code 251) 16 = .ok (.invokevirtual 257, 3) := by decide +kernel
theorem d251_19 : decode (hs_code 251) 19 = .ok (.istore_n 2, 1) := by decide +kernel
theorem d251_20 : decode (hs_code 251) 20 = .ok (.aload_n 0, 1) := by decide +kernel
theorem d251_21 : decode (hs_code 251) 21 = .ok (.getfield 204, 3) := by decide +kernel
theorem d251_24 : decode (hs_code 251) 24 = .ok (.ifCond .le 4, 3) := by decide +kernel
theorem d251_27 : decode (hs_code 251) 27 = .ok (.return_, 1) := by decide +kernel
theorem d251_28 : decode (hs_code 251) 28 = .ok (.aload_n 0, 1) := by decide +kernel
theorem d251_29 : decode (hs_code 251) 29 = .ok (.getfield 35, 3) := by decide +kernel
theorem d251_32 : decode (hs_code 251) 32 = .ok (.sipush 1648, 3) := by decide +kernel
theorem d251_35 : decode (hs_code 251) 35 = .ok (.iload_n 1, 1) := by decide +kernel
theorem d251_36 : decode (hs_code 251) 36 = .ok (.iadd, 1) := by decide +kernel
theorem d251_37 : decode (hs_code 251) 37 = .ok (.iload_n 2, 1) := by decide +kernel
theorem d251_38 : decode (hs_code 251) 38 = .ok (.iastore, 1) := by decide +kernel
theorem d251_39 : decode (hs_code 251) 39 = .ok (.aload_n 0, 1) := by decide +kernel
theorem d251_40 : decode (hs_code 251) 40 = .ok (.getfield 35, 3) := by decide +kernel
theorem d251_43 : decode (hs_code 251) 43 = .ok (.sipush 1598, 3) := by decide +kernel
theorem d251_46 : decode (hs_code 251) 46 = .ok (.dup2, 1) := by decide +kernel
theorem d251_47 : decode (hs_code 251) 47 = .ok (.iaload, 1) := by decide +kernel
theorem d251_48 : decode (hs_code 251) 48 = .ok (.iconst 1, 1) := by decide +kernel
theorem d251_49 : decode (hs_code 251) 49 = .ok (.iadd, 1) := by decide +kernel
theorem d251_50 : decode (hs_code 251) 50 = .ok (.iastore, 1) := by decide +kernel
theorem d251_51 : decode (hs_code 251) 51 = .ok (.return_, 1) := by decide +kernel
theorem d252_0 : decode (hs_code 252) 0 = .ok (.aload_n 0, 1) := by decide +kernel
theorem d252_1 : decode (hs_code 252) 1 = .ok (.iconst 3, 1) := by decide +kernel
theorem d252_2 : decode (hs_code 252) 2 = .ok (.bipush 6, 2) := by decide +kernel
theorem d252_4 : decode (hs_code 252) 4 = .ok (.invokevirtual 254, 3) := by decide +kernel
theorem d252_7 : decode (hs_code 252) 7 = .ok (.istore_n 1, 1) := by decide +kernel
theorem d252_8 : decode (hs_code 252) 8 = .ok (.iconst 0, 1) := by decide +kernel
theorem d252_9 : decode (hs_code 252) 9 = .ok (.istore_n 2, 1) := by decide +kernel
theorem d252_10 : decode (hs_code 252) 10 = .ok (.aload_n 0, 1) := by decide +kernel
theorem d252_11 : decode (hs_code 252) 11 = .ok (.getfield 204, 3) := by decide +kernel
theorem d252_14 : decode (hs_code 252) 14 = .ok (.ifCond .ne 69, 3) := by decide +kernel
theorem d252_17 : decode (hs_code 252) 17 = .ok (.aload_n 0, 1) := by decide +kernel
theorem d252_18 : decode (hs_code 252) 18 = .ok (.invokevirtual 192, 3) := by decide +kernel
theorem d252_21 : decode (hs_code 252) 21 = .ok (.ifCond .lt 62, 3) := by decide +kernel
theorem d252_24 : decode (hs_code 252) 24 = .ok (.iload_n 2, 1) := by decide +kernel
theorem d252_25 : decode (hs_code 252) 25 = .ok (.aload_n 0, 1) := by decide +kernel
theorem d252_26 : decode (hs_code 252) 26 = .ok (.getfield 35, 3) := by decide +kernel
theorem d252_29 : decode (hs_code 252) 29 = .ok (.sipush 1596, 3) := by decide +kernel
theorem d252_32 : decode (hs_code 252) 32 = .ok (.iaload, 1) := by decide +kernel
theorem d252_33 : decode (hs_code 252) 33 = .ok (.if_icmp .ne 13, 3) := by decide +kernel
theorem d252_36 : decode (hs_code 252) 36 = .ok (.aload_n 0, 1) := by decide +kernel
theorem d252_37 : decode (hs_code 252) 37 = .ok (.bipush 6, 2) := by decide +kernel
theorem d252_39 : decode (hs_code 252) 39 = .ok (.aload_n 0, 1) := by decide +kernel
theorem d252_40 : decode (hs_code 252) 40 = .ok (.getfield 109, 3) := by decide +kernel
theorem d252_43 : decode (hs_code 252) 43 = .ok (.invokevirtual 210, 3) := by decide +kernel
theorem d252_46 : decode (hs_code 252) 46 = .ok (.aload_n 0, 1) := by decide +kernel
theorem d252_47 : decode (hs_code 252) 47 = .ok (.getfield 204, 3) := by decide +kernel
theorem d252_50 : decode (hs_code 252) 50 = .ok (.ifCond .le 4, 3) := by decide +kernel
theorem d252_53 : decode (hs_code 252) 53 = .ok (.return_, 1) := by decide +kernel
theorem d252_54 : decode (hs_code 252) 54 = .ok (.aload_n 0, 1) := by decide +kernel
theorem d252_55 : decode (hs_code 252) 55 = .ok (.getfield 35, 3) := by decide +kernel
theorem d252_58 : decode (hs_code 252) 58 = .ok (.sipush 1655, 3) := by decide +kernel
theorem d252_61 : decode (hs_code 252) 61 = .ok (.bipush 8, 2) := by decide +kernel
theorem d252_63 : decode (hs_code 252) 63 = .ok (.iload_n 1, 1) := by decide +kernel
theorem d252_64 : decode (hs_code 252) 64 = .ok (.imul, 1) := by decide +kernel
theorem d252_65 : decode (hs_code 252) 65 = .ok (.iadd, 1) := by decide +kernel
theorem d252_66 : decode (hs_code 252) 66 = .ok (.iload_n 2, 1) := by decide +kernel
theorem d252_67 : decode (hs_code 252) 67 = .ok (.iadd, 1) := by decide +kernel
theorem d252_68 : decode (hs_code 252) 68 = .ok (.aload_n 0, 1) := by decide +kernel
theorem d252_69 : decode (hs_code 252) 69 = .ok (.invokevirtual 192, 3) := by decide +kernel
theorem d252_72 : decode (hs_code 252) 72 = .ok (.iastore, 1) := by decide +kernel
theorem d252_73 : decode (hs_code 252) 73 = .ok (.iinc 2 1, 3) := by decide +kernel
theorem d252_76 : decode (hs_code 252) 76 = .ok (.aload_n 0, 1) := by decide +kernel
theorem d252_77 : decode (hs_code 252) 77 = .ok (.invokevirtual 214, 3) := by decide +kernel
theorem d252_80 : decode (hs_code 252) 80 = .ok (.goto (-70), 3) := by decide +kernel
theorem d252_83 : decode (hs_code 252) 83 = .ok (.aload_n 0, 1) := by decide +kernel
theorem d252_84 : decode (hs_code 252) 84 = .ok (.getfield 204, 3) := by decide +kernel
theorem d252_87 : decode (hs_code 252) 87 = .ok (.ifCond .ne 15, 3) := by decide +kernel
theorem d252_90 : decode (hs_code 252) 90 = .ok (.aload_n 0, 1) := by decide +kernel
theorem d252_91 : decode (hs_code 252) 91 = .ok (.getfield 35, 3) := by decide +kernel
theorem d252_94 : decode (hs_code 252) 94 = .ok (.sipush 1599, 3) := by decide +kernel
theorem d252_97 : decode (hs_code 252) 97 = .ok (.dup2, 1) := by decide +kernel
theorem d252_98 : decode (hs_code 252) 98 = .ok (.iaload, 1) := by decide +kernel
theorem d252_99 : decode (hs_code 252) 99 = .ok (.iconst 1, 1) := by decide +kernel
theorem d252_100 : decode (hs_code 252) 100 = .ok (.iadd, 1) := by decide +kernel
theorem d252_101 : decode (hs_code 252) 101 = .ok (.iastore, 1) := by decide +kernel
theorem d252_102 : decode (hs_code 252) 102 = .ok (.return_, 1) := by decide +kernel
theorem f192_35 : hs_fld (hs_own 192) 35 = some (11, 20, 3, 1) := by decide +kernel
theorem f193_60 : hs_fld (hs_own 193) 60 = some (11, 1, 0, 0) := by decide +kernel
theorem f193_63 : hs_fld (hs_own 193) 63 = some (11, 0, 0, 0) := by decide +kernel
theorem f194_60 : hs_fld (hs_own 194) 60 = some (11, 1, 0, 0) := by decide +kernel
theorem f194_66 : hs_fld (hs_own 194) 66 = some (11, 2, 2, 0) := by decide +kernel
theorem f195_7 : hs_fld (hs_own 195) 7 = some (11, 3, 2, 0) := by decide +kernel
theorem f195_60 : hs_fld (hs_own 195) 60 = some (11, 1, 0, 0) := by decide +kernel
theorem f196_13 : hs_fld (hs_own 196) 13 = some (11, 4, 3, 1) := by decide +kernel
theorem f196_17 : hs_fld (hs_own 196) 17 = some (11, 5, 3, 1) := by decide +kernel
theorem f196_20 : hs_fld (hs_own 196) 20 = some (11, 6, 3, 1) := by decide +kernel
theorem f196_60 : hs_fld (hs_own 196) 60 = some (11, 1, 0, 0) := by decide +kernel
theorem f196_63 : hs_fld (hs_own 196) 63 = some (11, 0, 0, 0) := by decide +kernel
theorem f197_63 : hs_fld (hs_own 197) 63 = some (11, 0, 0, 0) := by decide +kernel
theorem f198_13 : hs_fld (hs_own 198) 13 = some (11, 4, 3, 1) := by decide +kernel
theorem f198_20 : hs_fld (hs_own 198) 20 = some (11, 6, 3, 1) := by decide +kernel
theorem f198_60 : hs_fld (hs_own 198) 60 = some (11, 1, 0, 0) := by decide +kernel
theorem f198_63 : hs_fld (hs_own 198) 63 = some (11, 0, 0, 0) := by decide +kernel
theorem f199_17 : hs_fld (hs_own 199) 17 = some (11, 5, 3, 1) := by decide +kernel
theorem f200_17 : hs_fld (hs_own 200) 17 = some (11, 5, 3, 1) := by decide +kernel
theorem f202_20 : hs_fld (hs_own 202) 20 = some (11, 6, 3, 1) := by decide +kernel
theorem f202_60 : hs_fld (hs_own 202) 60 = some (11, 1, 0, 0) := by decide +kernel
theorem f202_63 : hs_fld (hs_own 202) 63 = some (11, 0, 0, 0) := by decide +kernel
theorem f203_13 : hs_fld (hs_own 203) 13 = some (11, 4, 3, 1) := by decide +kernel
theorem f203_17 : hs_fld (hs_own 203) 17 = some (11, 5, 3, 1) := by decide +kernel
theorem f203_20 : hs_fld (hs_own 203) 20 = some (11, 6, 3, 1) := by decide +kernel
theorem f203_60 : hs_fld (hs_own 203) 60 = some (11, 1, 0, 0) := by decide +kernel
theorem f203_63 : hs_fld (hs_own 203) 63 = some (11, 0, 0, 0) := by decide +kernel
theorem f204_60 : hs_fld (hs_own 204) 60 = some (11, 1, 0, 0) := by decide +kernel
theorem f204_227 : hs_fld (hs_own 204) 227 = some (11, 8, 0, 0) := by decide +kernel
theorem f205_24 : hs_fld (hs_own 205) 24 = some (11, 7, 3, 1) := by decide +kernel
theorem f205_227 : hs_fld (hs_own 205) 227 = some (11, 8, 0, 0) := by decide +kernel
theorem f206_28 : hs_fld (hs_own 206) 28 = some (11, 10, 0, 0) := by decide +kernel
theorem f206_32 : hs_fld (hs_own 206) 32 = some (11, 11, 0, 0) := by decide +kernel
theorem f206_60 : hs_fld (hs_own 206) 60 = some (11, 1, 0, 0) := by decide +kernel
theorem f207_35 : hs_fld (hs_own 207) 35 = some (11, 20, 3, 1) := by decide +kernel
theorem f207_60 : hs_fld (hs_own 207) 60 = some (11, 1, 0, 0) := by decide +kernel
theorem f207_63 : hs_fld (hs_own 207) 63 = some (11, 0, 0, 0) := by decide +kernel
theorem f207_115 : hs_fld (hs_own 207) 115 = some (11, 14, 0, 0) := by decide +kernel
theorem f207_204 : hs_fld (hs_own 207) 204 = some (11, 12, 0, 0) := by decide +kernel
theorem f207_251 : hs_fld (hs_own 207) 251 = some (11, 25, 0, 0) := by decide +kernel
theorem f208_103 : hs_fld (hs_own 208) 103 = some (11, 9, 0, 0) := by decide +kernel
theorem f208_106 : hs_fld (hs_own 208) 106 = some (11, 16, 0, 0) := by decide +kernel
theorem f208_204 : hs_fld (hs_own 208) 204 = some (11, 12, 0, 0) := by decide +kernel
theorem f208_227 : hs_fld (hs_own 208) 227 = some (11, 8, 0, 0) := by decide +kernel
theorem f209_103 : hs_fld (hs_own 209) 103 = some (11, 9, 0, 0) := by decide +kernel
theorem f209_106 : hs_fld (hs_own 209) 106 = some (11, 16, 0, 0) := by decide +kernel
theorem f209_109 : hs_fld (hs_own 209) 109 = some (11, 15, 0, 0) := by decide +kernel
theorem f209_115 : hs_fld (hs_own 209) 115 = some (11, 14, 0, 0) := by decide +kernel
theorem f209_121 : hs_fld (hs_own 209) 121 = some (11, 19, 2, 0) := by decide +kernel
theorem f209_128 : hs_fld (hs_own 209) 128 = some (11, 18, 0, 0) := by decide +kernel
theorem f209_134 : hs_fld (hs_own 209) 134 = some (11, 17, 0, 0) := by decide +kernel
theorem f210_24 : hs_fld (hs_own 210) 24 = some (11, 7, 3, 1) := by decide +kernel
theorem f210_103 : hs_fld (hs_own 210) 103 = some (11, 9, 0, 0) := by decide +kernel
theorem f217_115 : hs_fld (hs_own 217) 115 = some (11, 14, 0, 0) := by decide +kernel
theorem f217_121 : hs_fld (hs_own 217) 121 = some (11, 19, 2, 0) := by decide +kernel
theorem f218_35 : hs_fld (hs_own 218) 35 = some (11, 20, 3, 1) := by decide +kernel
theorem f218_109 : hs_fld (hs_own 218) 109 = some (11, 15, 0, 0) := by decide +kernel
theorem f218_204 : hs_fld (hs_own 218) 204 = some (11, 12, 0, 0) := by decide +kernel
theorem f218_251 : hs_fld (hs_own 218) 251 = some (11, 25, 0, 0) := by decide +kernel
theorem f220_204 : hs_fld (hs_own 220) 204 = some (11, 12, 0, 0) := by decide +kernel
theorem f220_207 : hs_fld (hs_own 220) 207 = some (11, 13, 0, 0) := by decide +kernel
theorem f221_109 : hs_fld (hs_own 221) 109 = some (11, 15, 0, 0) := by decide +kernel
theorem f221_115 : hs_fld (hs_own 221) 115 = some (11, 14, 0, 0) := by decide +kernel
theorem f221_134 : hs_fld (hs_own 221) 134 = some (11, 17, 0, 0) := by decide +kernel
theorem f221_204 : hs_fld (hs_own 221) 204 = some (11, 12, 0, 0) := by decide +kernel
theorem f222_109 : hs_fld (hs_own 222) 109 = some (11, 15, 0, 0) := by decide +kernel
theorem f222_115 : hs_fld (hs_own 222) 115 = some (11, 14, 0, 0) := by decide +kernel
theorem f226_35 : hs_fld (hs_own 226) 35 = some (11, 20, 3, 1) := by decide +kernel
theorem f226_204 : hs_fld (hs_own 226) 204 = some (11, 12, 0, 0) := by decide +kernel
theorem f227_35 : hs_fld (hs_own 227) 35 = some (11, 20, 3, 1) := by decide +kernel
theorem f227_44 : hs_fld (hs_own 227) 44 = some (11, 23, 3, 1) := by decide +kernel
theorem f227_109 : hs_fld (hs_own 227) 109 = some (11, 15, 0, 0) := by decide +kernel
theorem f227_121 : hs_fld (hs_own 227) 121 = some (11, 19, 2, 0) := by decide +kernel
theorem f227_204 : hs_fld (hs_own 227) 204 = some (11, 12, 0, 0) := by decide +kernel
theorem f228_115 : hs_fld (hs_own 228) 115 = some (11, 14, 0, 0) := by decide +kernel
theorem f228_128 : hs_fld (hs_own 228) 128 = some (11, 18, 0, 0) := by decide +kernel
theorem f245_35 : hs_fld (hs_own 245) 35 = some (11, 20, 3, 1) := by decide +kernel
theorem f245_44 : hs_fld (hs_own 245) 44 = some (11, 23, 3, 1) := by decide +kernel
theorem f245_121 : hs_fld (hs_own 245) 121 = some (11, 19, 2, 0) := by decide +kernel
theorem f248_204 : hs_fld (hs_own 248) 204 = some (11, 12, 0, 0) := by decide +kernel
theorem f249_204 : hs_fld (hs_own 249) 204 = some (11, 12, 0, 0) := by decide +kernel
theorem f250_35 : hs_fld (hs_own 250) 35 = some (11, 20, 3, 1) := by decide +kernel
theorem f250_204 : hs_fld (hs_own 250) 204 = some (11, 12, 0, 0) := by decide +kernel
theorem f251_35 : hs_fld (hs_own 251) 35 = some (11, 20, 3, 1) := by decide +kernel
theorem f251_204 : hs_fld (hs_own 251) 204 = some (11, 12, 0, 0) := by decide +kernel
theorem f252_35 : hs_fld (hs_own 252) 35 = some (11, 20, 3, 1) := by decide +kernel
theorem f252_109 : hs_fld (hs_own 252) 109 = some (11, 15, 0, 0) := by decide +kernel
theorem f252_204 : hs_fld (hs_own 252) 204 = some (11, 12, 0, 0) := by decide +kernel
theorem rt192 : hs_ret 192 = none := by decide +kernel
theorem rt193 : hs_ret 193 = (some .int) := by decide +kernel
theorem rt194 : hs_ret 194 = (some .long) := by decide +kernel
theorem rt195 : hs_ret 195 = (some .long) := by decide +kernel
theorem rt196 : hs_ret 196 = (some .boolean) := by decide +kernel
theorem rt197 : hs_ret 197 = (some .boolean) := by decide +kernel
theorem rt198 : hs_ret 198 = (some .boolean) := by decide +kernel
theorem rt199 : hs_ret 199 = (some .int) := by decide +kernel
theorem rt200 : hs_ret 200 = (some .int) := by decide +kernel
theorem rt201 : hs_ret 201 = (some .long) := by decide +kernel
theorem rt202 : hs_ret 202 = (some .long) := by decide +kernel
theorem rt203 : hs_ret 203 = (some .boolean) := by decide +kernel
theorem rt204 : hs_ret 204 = (some .int) := by decide +kernel
theorem rt205 : hs_ret 205 = none := by decide +kernel
theorem rt206 : hs_ret 206 = (some .int) := by decide +kernel
theorem rt207 : hs_ret 207 = (some .int) := by decide +kernel
theorem rt208 : hs_ret 208 = (some .boolean) := by decide +kernel
theorem rt209 : hs_ret 209 = none := by decide +kernel
theorem rt210 : hs_ret 210 = (some .int) := by decide +kernel
theorem rt211 : hs_ret 211 = (some .boolean) := by decide +kernel
theorem rt212 : hs_ret 212 = (some .boolean) := by decide +kernel
theorem rt213 : hs_ret 213 = (some .boolean) := by decide +kernel
theorem rt214 : hs_ret 214 = none := by decide +kernel
theorem rt215 : hs_ret 215 = (some .boolean) := by decide +kernel
theorem rt216 : hs_ret 216 = (some .long) := by decide +kernel
theorem rt217 : hs_ret 217 = (some .boolean) := by decide +kernel
theorem rt218 : hs_ret 218 = none := by decide +kernel
theorem rt219 : hs_ret 219 = (some .boolean) := by decide +kernel
theorem rt220 : hs_ret 220 = none := by decide +kernel
theorem rt221 : hs_ret 221 = (some .int) := by decide +kernel
theorem rt222 : hs_ret 222 = none := by decide +kernel
theorem rt223 : hs_ret 223 = (some .boolean) := by decide +kernel
theorem rt224 : hs_ret 224 = (some .boolean) := by decide +kernel
theorem rt225 : hs_ret 225 = (some .boolean) := by decide +kernel
theorem rt226 : hs_ret 226 = none := by decide +kernel
theorem rt227 : hs_ret 227 = (some .int) := by decide +kernel
theorem rt228 : hs_ret 228 = (some .boolean) := by decide +kernel
theorem rt229 : hs_ret 229 = (some .boolean) := by decide +kernel
theorem rt230 : hs_ret 230 = (some .boolean) := by decide +kernel
theorem rt231 : hs_ret 231 = (some .boolean) := by decide +kernel
theorem rt232 : hs_ret 232 = (some .boolean) := by decide +kernel
theorem rt233 : hs_ret 233 = (some .boolean) := by decide +kernel
theorem rt234 : hs_ret 234 = (some .boolean) := by decide +kernel
theorem rt235 : hs_ret 235 = (some .boolean) := by decide +kernel
theorem rt236 : hs_ret 236 = (some .boolean) := by decide +kernel
theorem rt237 : hs_ret 237 = (some .boolean) := by decide +kernel
theorem rt238 : hs_ret 238 = (some .boolean) := by decide +kernel
theorem rt239 : hs_ret 239 = (some .int) := by decide +kernel
theorem rt240 : hs_ret 240 = (some .int) := by decide +kernel
theorem rt241 : hs_ret 241 = (some .int) := by decide +kernel
theorem rt242 : hs_ret 242 = (some .boolean) := by decide +kernel
theorem rt243 : hs_ret 243 = (some .boolean) := by decide +kernel
theorem rt244 : hs_ret 244 = (some .boolean) := by decide +kernel
theorem rt245 : hs_ret 245 = (some .int) := by decide +kernel
theorem rt246 : hs_ret 246 = (some .int) := by decide +kernel
theorem rt247 : hs_ret 247 = (some .int) := by decide +kernel
theorem rt248 : hs_ret 248 = none := by decide +kernel
theorem rt249 : hs_ret 249 = (some .boolean) := by decide +kernel
theorem rt250 : hs_ret 250 = none := by decide +kernel
theorem rt251 : hs_ret 251 = none := by decide +kernel
theorem rt252 : hs_ret 252 = none := by decide +kernel
section BB
variable {scr : List Int32} {d : Nat} {h : hs_H} {S : List hs_S} {I : Nat → Nat → Int32} {L : Nat → Nat → Int64} {R : Nat → Nat → Nat}
theorem e192 {t0 : Nat} {x1 : Int32} : hs_C scr d 192 [.ref t0, .int x1] h = hs_R scr d 192 0 [some (.ref t0), some (.int x1), none, none] [] h := by rw [hs_C, mL192]; rfl
theorem b192_0 {t0 : Nat} {x1 : Int32}  : hs_R scr d 192 0 [some (.ref t0), some (.int x1), none, none] [] (S, I, L, R) = hs_R scr d 192 8 [some (.ref t0), some (.int x1), some (.int ((399 : Int32) * x1)), some (.int 0)] [] (S, I, L, R) := Eq.trans (r_sp d192_0 kS_399) (Eq.trans (r_il_n d192_3 rfl) (Eq.trans (r_imul d192_4) (Eq.trans (r_is_n (loc' := [some (.ref t0), some (.int x1), some (.int ((399 : Int32) * x1)), none]) d192_5 rfl) (Eq.trans (r_ic d192_6 kI_0) (Eq.trans (r_is_n (loc' := [some (.ref t0), some (.int x1), some (.int ((399 : Int32) * x1)), some (.int 0)]) d192_7 rfl) (rfl))))))
theorem b192_8 {t0 : Nat} {x1 x2 x3 : Int32} (o_t0 : ok11 S R t0) : hs_R scr d 192 8 [some (.ref t0), some (.int x1), some (.int x2), some (.int x3)] [] (S, I, L, R) = (if (399 : Int32) ≤ x3 then (if hs_ib (x2 + 6) 1995 = true then (if hs_ib (x2 + 7) 1995 = true then (if hs_ib (x2 + 9) 1995 = true then some (none, (S, (hs_u (hs_u (hs_u I (t0 + 5) (Int32.toNatClampNeg (x2 + 6)) 2) (t0 + 5) (Int32.toNatClampNeg (x2 + 7)) 20) (t0 + 5) (Int32.toNatClampNeg (x2 + 9)) 1), L, R)) else none) else none) else none) else (if hs_ib (x2 + x3) 1995 = true then hs_R scr d 192 8 [some (.ref t0), some (.int x1), some (.int x2), some (.int (x3 + 1))] [] (S, (hs_u I (t0 + 5) (Int32.toNatClampNeg (x2 + x3)) 0), L, R) else none)) := Eq.trans (r_il_n d192_8 rfl) (Eq.trans (r_sp d192_9 kS_399) (Eq.trans (r_cge d192_12 rfl) (q_ite (Eq.trans (r_al_n d192_30 rfl) (Eq.trans (r_getRe d192_31 f192_35 o_t0.2.1 (o_t0.2.2.2.2.2.2.2.2.2.2.1) (Nat.le_trans o_t0.1 (Nat.le_add_right _ _))) (Eq.trans (r_il_n d192_34 rfl) (Eq.trans (r_bp d192_35 kB_6) (Eq.trans (r_iadd d192_37) (Eq.trans (r_ic d192_38 kI_2) (Eq.trans (r_iast d192_39 (o_t0.2.2.2.2.2.2.2.2.2.2.2.1)) (q_ite (Eq.trans (r_al_n d192_40 rfl) (Eq.trans (r_getRe d192_41 f192_35 o_t0.2.1 (o_t0.2.2.2.2.2.2.2.2.2.2.1) (Nat.le_trans o_t0.1 (Nat.le_add_right _ _))) (Eq.trans (r_il_n d192_44 rfl) (Eq.trans (r_bp d192_45 kB_7) (Eq.trans (r_iadd d192_47) (Eq.trans (r_bp d192_48 kB_20) (Eq.trans (r_iast d192_50 (o_t0.2.2.2.2.2.2.2.2.2.2.2.1)) (q_ite (Eq.trans (r_al_n d192_51 rfl) (Eq.trans (r_getRe d192_52 f192_35 o_t0.2.1 (o_t0.2.2.2.2.2.2.2.2.2.2.1) (Nat.le_trans o_t0.1 (Nat.le_add_right _ _))) (Eq.trans (r_il_n d192_55 rfl) (Eq.trans (r_bp d192_56 kB_9) (Eq.trans (r_iadd d192_58) (Eq.trans (r_ic d192_59 kI_1) (Eq.trans (r_iast d192_60 (o_t0.2.2.2.2.2.2.2.2.2.2.2.1)) (q_ite (r_rv d192_61 rt192) rfl)))))))) rfl)))))))) rfl)))))))) (Eq.trans (r_al_n d192_15 rfl) (Eq.trans (r_getRe d192_16 f192_35 o_t0.2.1 (o_t0.2.2.2.2.2.2.2.2.2.2.1) (Nat.le_trans o_t0.1 (Nat.le_add_right _ _))) (Eq.trans (r_il_n d192_19 rfl) (Eq.trans (r_il_n d192_20 rfl) (Eq.trans (r_iadd d192_21) (Eq.trans (r_ic d192_22 kI_0) (Eq.trans (r_iast d192_23 (o_t0.2.2.2.2.2.2.2.2.2.2.2.1)) (q_ite (Eq.trans (r_inc (loc' := [some (.ref t0), some (.int x1), some (.int x2), some (.int (x3 + 1))]) d192_24 kI_1 rfl rfl) (Eq.trans (r_goto d192_27 rfl) (rfl))) rfl)))))))))))
theorem e193 {t0 : Nat} : hs_C scr d 193 [.ref t0] h = hs_R scr d 193 0 [some (.ref t0)] [] h := by rw [hs_C, mL193]; rfl
theorem b193_0 {t0 : Nat} (o_t0 : ok11 S R t0) : hs_R scr d 193 0 [some (.ref t0)] [] (S, I, L, R) = some (some (.int ((hs_u I t0 1 0) t0 0)), (S, (hs_u I t0 1 0), L, R)) := Eq.trans (r_al_n d193_0 rfl) (Eq.trans (r_ic d193_1 kI_0) (Eq.trans (r_putI d193_2 f193_60 o_t0.2.1) (Eq.trans (r_al_n d193_5 rfl) (Eq.trans (r_getI d193_6 f193_63 o_t0.2.1) (r_ri d193_9 rt193)))))
theorem e194 {t0 : Nat} : hs_C scr d 194 [.ref t0] h = hs_R scr d 194 0 [some (.ref t0)] [] h := by rw [hs_C, mL194]; rfl
theorem b194_0 {t0 : Nat} (o_t0 : ok11 S R t0) : hs_R scr d 194 0 [some (.ref t0)] [] (S, I, L, R) = some (some (.long (L t0 2)), (S, (hs_u I t0 1 0), L, R)) := Eq.trans (r_al_n d194_0 rfl) (Eq.trans (r_ic d194_1 kI_0) (Eq.trans (r_putI d194_2 f194_60 o_t0.2.1) (Eq.trans (r_al_n d194_5 rfl) (Eq.trans (r_getL d194_6 f194_66 o_t0.2.1) (r_rl d194_9 rt194)))))
theorem e195 {t0 : Nat} : hs_C scr d 195 [.ref t0] h = hs_R scr d 195 0 [some (.ref t0)] [] h := by rw [hs_C, mL195]; rfl
theorem b195_0 {t0 : Nat} (o_t0 : ok11 S R t0) : hs_R scr d 195 0 [some (.ref t0)] [] (S, I, L, R) = some (some (.long (L t0 3)), (S, (hs_u I t0 1 0), L, R)) := Eq.trans (r_al_n d195_0 rfl) (Eq.trans (r_ic d195_1 kI_0) (Eq.trans (r_putI d195_2 f195_60 o_t0.2.1) (Eq.trans (r_al_n d195_5 rfl) (Eq.trans (r_getL d195_6 f195_7 o_t0.2.1) (r_rl d195_9 rt195)))))
theorem e196 {t0 : Nat} {x1 : Int32} {x2 : Int32} {x3 : Int32} : hs_C scr d 196 [.ref t0, .int x1, .int x2, .int x3] h = hs_R scr d 196 0 [some (.ref t0), some (.int x1), some (.int x2), some (.int x3), none] [] h := by rw [hs_C, mL196]; rfl
theorem b196_0 {t0 : Nat} {x1 x2 x3 : Int32} (o_t0 : ok11 S R t0) : hs_R scr (d + 1) 196 0 [some (.ref t0), some (.int x1), some (.int x2), some (.int x3), none] [] (S, I, L, R) = (if x1 < 0 then hs_R scr (d + 1) 196 28 [some (.ref t0), some (.int x1), some (.int x2), some (.int x3), none] [] (S, (hs_u (hs_u I t0 1 0) t0 0 0), L, R) else (if (4 : Int32) ≤ x1 then hs_R scr (d + 1) 196 28 [some (.ref t0), some (.int x1), some (.int x2), some (.int x3), none] [] (S, (hs_u (hs_u I t0 1 0) t0 0 0), L, R) else (if x2 < 0 then hs_R scr (d + 1) 196 28 [some (.ref t0), some (.int x1), some (.int x2), some (.int x3), none] [] (S, (hs_u (hs_u I t0 1 0) t0 0 0), L, R) else (if x2 ≤ 3 then (if x3 ≤ 60 then (if (0 : Int32) ≤ x3 then (if hs_ib x1 4 = true then (if hs_ib x1 4 = true then hs_R scr (d + 1) 196 74 [some (.ref t0), some (.int x1), some (.int x2), some (.int x3), some (.int 0)] [] (S, (hs_u (hs_u (hs_u (hs_u I t0 1 0) t0 0 0) (t0 + 1) (Int32.toNatClampNeg x1) x2) (t0 + 2) (Int32.toNatClampNeg x1) x3), L, R) else none) else none) else ((hs_C scr d 197 [.ref t0, .int 6] (S, (hs_u (hs_u I t0 1 0) t0 0 0), L, R)).bind fun o => hs_R scr (d + 1) 196 56 [some (.ref t0), some (.int x1), some (.int x2), some (.int x3), none] (o.1.toList ++ []) o.2)) else ((hs_C scr d 197 [.ref t0, .int 5] (S, (hs_u (hs_u I t0 1 0) t0 0 0), L, R)).bind fun o => hs_R scr (d + 1) 196 45 [some (.ref t0), some (.int x1), some (.int x2), some (.int x3), none] (o.1.toList ++ []) o.2)) else hs_R scr (d + 1) 196 28 [some (.ref t0), some (.int x1), some (.int x2), some (.int x3), none] [] (S, (hs_u (hs_u I t0 1 0) t0 0 0), L, R))))) := Eq.trans (r_al_n d196_0 rfl) (Eq.trans (r_ic d196_1 kI_0) (Eq.trans (r_putI d196_2 f196_60 o_t0.2.1) (Eq.trans (r_al_n d196_5 rfl) (Eq.trans (r_ic d196_6 kI_0) (Eq.trans (r_putI d196_7 f196_63 o_t0.2.1) (Eq.trans (r_il_n d196_10 rfl) (Eq.trans (r_zlt d196_11 rfl) (q_ite (rfl) (Eq.trans (r_il_n d196_14 rfl) (Eq.trans (r_ic d196_15 kI_4) (Eq.trans (r_cge d196_16 rfl) (q_ite (rfl) (Eq.trans (r_il_n d196_19 rfl) (Eq.trans (r_zlt d196_20 rfl) (q_ite (rfl) (Eq.trans (r_il_n d196_23 rfl) (Eq.trans (r_ic d196_24 kI_3) (Eq.trans (r_cle d196_25 rfl) (q_ite (Eq.trans (r_il_n d196_34 rfl) (Eq.trans (r_bp d196_35 kB_60) (Eq.trans (r_cle d196_37 rfl) (q_ite (Eq.trans (r_il_n d196_46 rfl) (Eq.trans (r_zge d196_47 rfl) (q_ite (Eq.trans (r_al_n d196_57 rfl) (Eq.trans (r_getRe d196_58 f196_13 o_t0.2.1 (o_t0.2.2.1) (Nat.le_trans o_t0.1 (Nat.le_add_right _ _))) (Eq.trans (r_il_n d196_61 rfl) (Eq.trans (r_il_n d196_62 rfl) (Eq.trans (r_iast d196_63 (o_t0.2.2.2.1)) (q_ite (Eq.trans (r_al_n d196_64 rfl) (Eq.trans (r_getRe d196_65 f196_17 o_t0.2.1 (o_t0.2.2.2.2.1) (Nat.le_trans o_t0.1 (Nat.le_add_right _ _))) (Eq.trans (r_il_n d196_68 rfl) (Eq.trans (r_il_n d196_69 rfl) (Eq.trans (r_iast d196_70 (o_t0.2.2.2.2.2.1)) (q_ite (Eq.trans (r_ic d196_71 kI_0) (Eq.trans (r_is (loc' := [some (.ref t0), some (.int x1), some (.int x2), some (.int x3), some (.int 0)]) d196_72 rfl) (rfl))) rfl)))))) rfl)))))) (Eq.trans (r_al_n d196_50 rfl) (Eq.trans (r_bp d196_51 kB_6) (r_cvE (as := [.int 6]) (r := []) d196_53 c196_75 ow197 o_t0.2.1 np197.symm rfl (hs_fitE mL197 (Nat.le_of_ble_eq_true rfl)))))))) (Eq.trans (r_al_n d196_40 rfl) (Eq.trans (r_ic d196_41 kI_5) (r_cvE (as := [.int 5]) (r := []) d196_42 c196_75 ow197 o_t0.2.1 np197.symm rfl (hs_fitE mL197 (Nat.le_of_ble_eq_true rfl))))))))) (rfl))))))))))))))))))))
theorem b196_28 {t0 : Nat} {x1 x2 x3 : Int32} (o_t0 : ok11 S R t0) : hs_R scr (d + 1) 196 28 [some (.ref t0), some (.int x1), some (.int x2), some (.int x3), none] [] (S, I, L, R) = ((hs_C scr d 197 [.ref t0, .int 1] (S, I, L, R)).bind fun o => hs_R scr (d + 1) 196 33 [some (.ref t0), some (.int x1), some (.int x2), some (.int x3), none] (o.1.toList ++ []) o.2) := Eq.trans (r_al_n d196_28 rfl) (Eq.trans (r_ic d196_29 kI_1) (r_cvE (as := [.int 1]) (r := []) d196_30 c196_75 ow197 o_t0.2.1 np197.symm rfl (hs_fitE mL197 (Nat.le_of_ble_eq_true rfl))))
theorem b196_33 {t0 : Nat} {x1 x2 x3 s0 : Int32}  : hs_R scr d 196 33 [some (.ref t0), some (.int x1), some (.int x2), some (.int x3), none] [.int s0] (S, I, L, R) = (if s0 = 0 ∨ s0 = 1 then some (some (.int s0), (S, I, L, R)) else none) := r_rz d196_33 rt196
theorem b196_45 {t0 : Nat} {x1 x2 x3 s0 : Int32}  : hs_R scr d 196 45 [some (.ref t0), some (.int x1), some (.int x2), some (.int x3), none] [.int s0] (S, I, L, R) = (if s0 = 0 ∨ s0 = 1 then some (some (.int s0), (S, I, L, R)) else none) := r_rz d196_45 rt196
theorem b196_56 {t0 : Nat} {x1 x2 x3 s0 : Int32}  : hs_R scr d 196 56 [some (.ref t0), some (.int x1), some (.int x2), some (.int x3), none] [.int s0] (S, I, L, R) = (if s0 = 0 ∨ s0 = 1 then some (some (.int s0), (S, I, L, R)) else none) := r_rz d196_56 rt196
theorem b196_74 {t0 : Nat} {x1 x2 x3 x4 : Int32} (o_t0 : ok11 S R t0) : hs_R scr d 196 74 [some (.ref t0), some (.int x1), some (.int x2), some (.int x3), some (.int x4)] [] (S, I, L, R) = (if x3 ≤ x4 then some (some (.int 1), (S, I, L, R)) else (if hs_ib (((60 : Int32) * x1) + x4) 240 = true then hs_R scr d 196 74 [some (.ref t0), some (.int x1), some (.int x2), some (.int x3), some (.int (x4 + 1))] [] (S, I, (hs_u L (t0 + 3) (Int32.toNatClampNeg (((60 : Int32) * x1) + x4)) 0), R) else none)) := Eq.trans (r_il d196_74 rfl) (Eq.trans (r_il_n d196_76 rfl) (Eq.trans (r_cge d196_77 rfl) (q_ite (Eq.trans (r_ic d196_99 kI_1) ((r_rz d196_100 rt196).trans (if_pos (Or.inr rfl)))) (Eq.trans (r_al_n d196_80 rfl) (Eq.trans (r_getRe d196_81 f196_20 o_t0.2.1 (o_t0.2.2.2.2.2.2.1) (Nat.le_trans o_t0.1 (Nat.le_add_right _ _))) (Eq.trans (r_bp d196_84 kB_60) (Eq.trans (r_il_n d196_86 rfl) (Eq.trans (r_imul d196_87) (Eq.trans (r_il d196_88 rfl) (Eq.trans (r_iadd d196_90) (Eq.trans (r_lc d196_91 kL_0) (Eq.trans (r_last d196_92 (o_t0.2.2.2.2.2.2.2.1)) (q_ite (Eq.trans (r_inc (loc' := [some (.ref t0), some (.int x1), some (.int x2), some (.int x3), some (.int (x4 + 1))]) d196_93 kI_1 rfl rfl) (Eq.trans (r_goto d196_96 rfl) (rfl))) rfl)))))))))))))
theorem e197 {t0 : Nat} {x1 : Int32} : hs_C scr d 197 [.ref t0, .int x1] h = hs_R scr d 197 0 [some (.ref t0), some (.int x1)] [] h := by rw [hs_C, mL197]; rfl
theorem b197_0 {t0 : Nat} {x1 : Int32} (o_t0 : ok11 S R t0) : hs_R scr d 197 0 [some (.ref t0), some (.int x1)] [] (S, I, L, R) = some (some (.int 0), (S, (hs_u I t0 0 x1), L, R)) := Eq.trans (r_al_n d197_0 rfl) (Eq.trans (r_il_n d197_1 rfl) (Eq.trans (r_putI d197_2 f197_63 o_t0.2.1) (Eq.trans (r_ic d197_5 kI_0) ((r_rz d197_6 rt197).trans (if_pos (Or.inl rfl))))))
theorem e198 {t0 : Nat} {x1 : Int32} {x2 : Int32} {y3 : Int64} : hs_C scr d 198 [.ref t0, .int x1, .int x2, .long y3] h = hs_R scr d 198 0 [some (.ref t0), some (.int x1), some (.int x2), some (.long y3), none] [] h := by rw [hs_C, mL198]; rfl
theorem b198_0 {t0 : Nat} {x1 x2 : Int32} {y3 : Int64} (o_t0 : ok11 S R t0) : hs_R scr (d + 1) 198 0 [some (.ref t0), some (.int x1), some (.int x2), some (.long y3), none] [] (S, I, L, R) = ((hs_C scr d 199 [.ref t0, .int x1, .int x2] (S, (hs_u I t0 1 0), L, R)).bind fun o => hs_R scr (d + 1) 198 12 [some (.ref t0), some (.int x1), some (.int x2), some (.long y3), none] (o.1.toList ++ [.ref t0]) o.2) := Eq.trans (r_al_n d198_0 rfl) (Eq.trans (r_ic d198_1 kI_0) (Eq.trans (r_putI d198_2 f198_60 o_t0.2.1) (Eq.trans (r_al_n d198_5 rfl) (Eq.trans (r_al_n d198_6 rfl) (Eq.trans (r_il_n d198_7 rfl) (Eq.trans (r_il_n d198_8 rfl) (r_cvE (as := [.int x1, .int x2]) (r := [.ref t0]) d198_9 c198_83 ow199 o_t0.2.1 np199.symm rfl (hs_fitE mL199 (Nat.le_of_ble_eq_true rfl)))))))))
theorem b198_12 {t0 u0 : Nat} {x1 x2 s1 : Int32} {y3 : Int64} (o_u0 : ok11 S R u0) (o_t0 : ok11 S R t0) : hs_R scr (d + 1) 198 12 [some (.ref t0), some (.int x1), some (.int x2), some (.long y3), none] [.int s1, .ref u0] (S, I, L, R) = (if ((hs_u I u0 0 s1) t0 0) ≤ 0 then (if hs_ib x1 4 = true then ((hs_C scr d 201 [.int ((hs_u I u0 0 s1) (t0 + 1) (Int32.toNatClampNeg x1)), .long y3] (S, (hs_u I u0 0 s1), L, R)).bind fun o => hs_R scr (d + 1) 198 44 [some (.ref t0), some (.int x1), some (.int x2), some (.long y3), none] (o.1.toList ++ [.int (((60 : Int32) * x1) + x2), .ref (t0 + 3)]) o.2) else none) else some (some (.int 0), (S, (hs_u I u0 0 s1), L, R))) := Eq.trans (r_putI d198_12 f198_63 o_u0.2.1) (Eq.trans (r_al_n d198_15 rfl) (Eq.trans (r_getI d198_16 f198_63 o_t0.2.1) (Eq.trans (r_zle d198_19 rfl) (q_ite (Eq.trans (r_al_n d198_24 rfl) (Eq.trans (r_getRe d198_25 f198_20 o_t0.2.1 (o_t0.2.2.2.2.2.2.1) (Nat.le_trans o_t0.1 (Nat.le_add_right _ _))) (Eq.trans (r_bp d198_28 kB_60) (Eq.trans (r_il_n d198_30 rfl) (Eq.trans (r_imul d198_31) (Eq.trans (r_il_n d198_32 rfl) (Eq.trans (r_iadd d198_33) (Eq.trans (r_al_n d198_34 rfl) (Eq.trans (r_getRe d198_35 f198_13 o_t0.2.1 (o_t0.2.2.1) (Nat.le_trans o_t0.1 (Nat.le_add_right _ _))) (Eq.trans (r_il_n d198_38 rfl) (Eq.trans (r_iald d198_39 (o_t0.2.2.2.1)) (q_ite (Eq.trans (r_ll_n d198_40 rfl) (r_cs (as := [.int ((hs_u I u0 0 s1) (t0 + 1) (Int32.toNatClampNeg x1)), .long y3]) (r := [.int (((60 : Int32) * x1) + x2), .ref (t0 + 3)]) d198_41 c198_87 np201.symm rfl (hs_fitE mL201 (Nat.le_of_ble_eq_true rfl)))) rfl)))))))))))) (Eq.trans (r_ic d198_22 kI_0) ((r_rz d198_23 rt198).trans (if_pos (Or.inl rfl))))))))
theorem b198_44 {t0 u0 n_u0 : Nat} {x1 x2 s1 : Int32} {y3 v2 : Int64} (a_u0 : S[u0]? = some (.inr (.long, n_u0))) : hs_R scr d 198 44 [some (.ref t0), some (.int x1), some (.int x2), some (.long y3), none] [.long v2, .int s1, .ref u0] (S, I, L, R) = (if hs_ib s1 n_u0 = true then some (some (.int 1), (S, I, (hs_u L u0 (Int32.toNatClampNeg s1) v2), R)) else none) := Eq.trans (r_last d198_44 a_u0) (q_ite (Eq.trans (r_ic d198_45 kI_1) ((r_rz d198_46 rt198).trans (if_pos (Or.inr rfl)))) rfl)
theorem e199 {t0 : Nat} {x1 : Int32} {x2 : Int32} : hs_C scr d 199 [.ref t0, .int x1, .int x2] h = hs_R scr d 199 0 [some (.ref t0), some (.int x1), some (.int x2), none] [] h := by rw [hs_C, mL199]; rfl
theorem b199_0 {t0 : Nat} {x1 x2 : Int32} (o_t0 : ok11 S R t0) : hs_R scr (d + 1) 199 0 [some (.ref t0), some (.int x1), some (.int x2), none] [] (S, I, L, R) = ((hs_C scr d 200 [.ref t0, .int x1] (S, I, L, R)).bind fun o => hs_R scr (d + 1) 199 5 [some (.ref t0), some (.int x1), some (.int x2), none] (o.1.toList ++ []) o.2) := Eq.trans (r_al_n d199_0 rfl) (Eq.trans (r_il_n d199_1 rfl) (r_cvE (as := [.int x1]) (r := []) d199_2 c199_79 ow200 o_t0.2.1 np200.symm rfl (hs_fitE mL200 (Nat.le_of_ble_eq_true rfl))))
theorem b199_5 {t0 : Nat} {x1 x2 s0 : Int32} (o_t0 : ok11 S R t0) : hs_R scr d 199 5 [some (.ref t0), some (.int x1), some (.int x2), none] [.int s0] (S, I, L, R) = (if s0 ≤ 0 then (if x2 < 0 then hs_R scr d 199 28 [some (.ref t0), some (.int x1), some (.int x2), some (.int s0)] [] (S, I, L, R) else (if hs_ib x1 4 = true then (if x2 < (I (t0 + 2) (Int32.toNatClampNeg x1)) then hs_R scr d 199 33 [some (.ref t0), some (.int x1), some (.int x2), some (.int s0)] [.int 0] (S, I, L, R) else hs_R scr d 199 28 [some (.ref t0), some (.int x1), some (.int x2), some (.int s0)] [] (S, I, L, R)) else none)) else hs_R scr d 199 33 [some (.ref t0), some (.int x1), some (.int x2), some (.int s0)] [.int s0] (S, I, L, R)) := Eq.trans (r_is_n (loc' := [some (.ref t0), some (.int x1), some (.int x2), some (.int s0)]) d199_5 rfl) (Eq.trans (r_il_n d199_6 rfl) (Eq.trans (r_zle d199_7 rfl) (q_ite (Eq.trans (r_il_n d199_14 rfl) (Eq.trans (r_zlt d199_15 rfl) (q_ite (rfl) (Eq.trans (r_il_n d199_18 rfl) (Eq.trans (r_al_n d199_19 rfl) (Eq.trans (r_getRe d199_20 f199_17 o_t0.2.1 (o_t0.2.2.2.2.1) (Nat.le_trans o_t0.1 (Nat.le_add_right _ _))) (Eq.trans (r_il_n d199_23 rfl) (Eq.trans (r_iald d199_24 (o_t0.2.2.2.2.2.1)) (q_ite (Eq.trans (r_clt d199_25 rfl) (q_ite (Eq.trans (r_ic d199_32 kI_0) (rfl)) (rfl))) rfl))))))))) (Eq.trans (r_il_n d199_10 rfl) (Eq.trans (r_goto d199_11 rfl) (rfl))))))
theorem b199_28 {t0 : Nat} {x1 x2 x3 : Int32}  : hs_R scr d 199 28 [some (.ref t0), some (.int x1), some (.int x2), some (.int x3)] [] (S, I, L, R) = hs_R scr d 199 33 [some (.ref t0), some (.int x1), some (.int x2), some (.int x3)] [.int 4] (S, I, L, R) := Eq.trans (r_ic d199_28 kI_4) (Eq.trans (r_goto d199_29 rfl) (rfl))
theorem b199_33 {t0 : Nat} {x1 x2 x3 s0 : Int32}  : hs_R scr d 199 33 [some (.ref t0), some (.int x1), some (.int x2), some (.int x3)] [.int s0] (S, I, L, R) = some (some (.int s0), (S, I, L, R)) := r_ri d199_33 rt199
theorem e200 {t0 : Nat} {x1 : Int32} : hs_C scr d 200 [.ref t0, .int x1] h = hs_R scr d 200 0 [some (.ref t0), some (.int x1)] [] h := by rw [hs_C, mL200]; rfl
theorem b200_0 {t0 : Nat} {x1 : Int32} (o_t0 : ok11 S R t0) : hs_R scr d 200 0 [some (.ref t0), some (.int x1)] [] (S, I, L, R) = (if x1 < 0 then hs_R scr d 200 9 [some (.ref t0), some (.int x1)] [] (S, I, L, R) else (if x1 < 4 then (if hs_ib x1 4 = true then (if (0 : Int32) ≤ (I (t0 + 2) (Int32.toNatClampNeg x1)) then hs_R scr d 200 27 [some (.ref t0), some (.int x1)] [.int 0] (S, I, L, R) else hs_R scr d 200 27 [some (.ref t0), some (.int x1)] [.int 3] (S, I, L, R)) else none) else hs_R scr d 200 9 [some (.ref t0), some (.int x1)] [] (S, I, L, R))) := Eq.trans (r_il_n d200_0 rfl) (Eq.trans (r_zlt d200_1 rfl) (q_ite (rfl) (Eq.trans (r_il_n d200_4 rfl) (Eq.trans (r_ic d200_5 kI_4) (Eq.trans (r_clt d200_6 rfl) (q_ite (Eq.trans (r_al_n d200_13 rfl) (Eq.trans (r_getRe d200_14 f200_17 o_t0.2.1 (o_t0.2.2.2.2.1) (Nat.le_trans o_t0.1 (Nat.le_add_right _ _))) (Eq.trans (r_il_n d200_17 rfl) (Eq.trans (r_iald d200_18 (o_t0.2.2.2.2.2.1)) (q_ite (Eq.trans (r_zge d200_19 rfl) (q_ite (Eq.trans (r_ic d200_26 kI_0) (rfl)) (Eq.trans (r_ic d200_22 kI_3) (Eq.trans (r_goto d200_23 rfl) (rfl))))) rfl))))) (rfl)))))))
theorem b200_9 {t0 : Nat} {x1 : Int32}  : hs_R scr d 200 9 [some (.ref t0), some (.int x1)] [] (S, I, L, R) = hs_R scr d 200 27 [some (.ref t0), some (.int x1)] [.int 1] (S, I, L, R) := Eq.trans (r_ic d200_9 kI_1) (Eq.trans (r_goto d200_10 rfl) (rfl))
theorem b200_27 {t0 : Nat} {x1 s0 : Int32}  : hs_R scr d 200 27 [some (.ref t0), some (.int x1)] [.int s0] (S, I, L, R) = some (some (.int s0), (S, I, L, R)) := r_ri d200_27 rt200
theorem e201 {x0 : Int32} {y1 : Int64} : hs_C scr d 201 [.int x0, .long y1] h = hs_R scr d 201 0 [some (.int x0), some (.long y1), none] [] h := by rw [hs_C, mL201]; rfl
theorem b201_0 {x0 : Int32} {y1 : Int64}  : hs_R scr d 201 0 [some (.int x0), some (.long y1), none] [] (S, I, L, R) = (if x0 = 0 then hs_R scr d 201 35 [some (.int x0), some (.long y1), none] [.long (Int32.toInt64 (Int8.toInt32 (Int32.toInt8 (Int64.toInt32 y1))))] (S, I, L, R) else (if x0 = 1 then hs_R scr d 201 35 [some (.int x0), some (.long y1), none] [.long (Int32.toInt64 (Int16.toInt32 (Int32.toInt16 (Int64.toInt32 y1))))] (S, I, L, R) else (if x0 = 2 then hs_R scr d 201 35 [some (.int x0), some (.long y1), none] [.long (Int32.toInt64 (Int64.toInt32 y1))] (S, I, L, R) else hs_R scr d 201 35 [some (.int x0), some (.long y1), none] [.long y1] (S, I, L, R)))) := Eq.trans (r_il_n d201_0 rfl) (Eq.trans (r_zne d201_1 rfl) (q_ite (Eq.trans (r_ll_n d201_4 rfl) (Eq.trans (r_l2i d201_5) (Eq.trans (r_i2b d201_6) (Eq.trans (r_i2l d201_7) (Eq.trans (r_goto d201_8 rfl) (rfl)))))) (Eq.trans (r_il_n d201_11 rfl) (Eq.trans (r_ic d201_12 kI_1) (Eq.trans (r_cne d201_13 rfl) (q_ite (Eq.trans (r_ll_n d201_16 rfl) (Eq.trans (r_l2i d201_17) (Eq.trans (r_i2s d201_18) (Eq.trans (r_i2l d201_19) (Eq.trans (r_goto d201_20 rfl) (rfl)))))) (Eq.trans (r_il_n d201_23 rfl) (Eq.trans (r_ic d201_24 kI_2) (Eq.trans (r_cne d201_25 rfl) (q_ite (Eq.trans (r_ll_n d201_28 rfl) (Eq.trans (r_l2i d201_29) (Eq.trans (r_i2l d201_30) (Eq.trans (r_goto d201_31 rfl) (rfl))))) (Eq.trans (r_ll_n d201_34 rfl) (rfl))))))))))))
theorem b201_35 {x0 : Int32} {y1 v0 : Int64}  : hs_R scr d 201 35 [some (.int x0), some (.long y1), none] [.long v0] (S, I, L, R) = some (some (.long v0), (S, I, L, R)) := r_rl d201_35 rt201
theorem e202 {t0 : Nat} {x1 : Int32} {x2 : Int32} : hs_C scr d 202 [.ref t0, .int x1, .int x2] h = hs_R scr d 202 0 [some (.ref t0), some (.int x1), some (.int x2)] [] h := by rw [hs_C, mL202]; rfl
theorem b202_0 {t0 : Nat} {x1 x2 : Int32} (o_t0 : ok11 S R t0) : hs_R scr (d + 1) 202 0 [some (.ref t0), some (.int x1), some (.int x2)] [] (S, I, L, R) = ((hs_C scr d 199 [.ref t0, .int x1, .int x2] (S, (hs_u I t0 1 0), L, R)).bind fun o => hs_R scr (d + 1) 202 12 [some (.ref t0), some (.int x1), some (.int x2)] (o.1.toList ++ [.ref t0]) o.2) := Eq.trans (r_al_n d202_0 rfl) (Eq.trans (r_ic d202_1 kI_0) (Eq.trans (r_putI d202_2 f202_60 o_t0.2.1) (Eq.trans (r_al_n d202_5 rfl) (Eq.trans (r_al_n d202_6 rfl) (Eq.trans (r_il_n d202_7 rfl) (Eq.trans (r_il_n d202_8 rfl) (r_cvE (as := [.int x1, .int x2]) (r := [.ref t0]) d202_9 c202_83 ow199 o_t0.2.1 np199.symm rfl (hs_fitE mL199 (Nat.le_of_ble_eq_true rfl)))))))))
theorem b202_12 {t0 u0 : Nat} {x1 x2 s1 : Int32} (o_u0 : ok11 S R u0) (o_t0 : ok11 S R t0) : hs_R scr d 202 12 [some (.ref t0), some (.int x1), some (.int x2)] [.int s1, .ref u0] (S, I, L, R) = (if ((hs_u I u0 0 s1) t0 0) ≤ 0 then (if hs_ib (((60 : Int32) * x1) + x2) 240 = true then hs_R scr d 202 39 [some (.ref t0), some (.int x1), some (.int x2)] [.long (L (t0 + 3) (Int32.toNatClampNeg (((60 : Int32) * x1) + x2)))] (S, (hs_u I u0 0 s1), L, R) else none) else hs_R scr d 202 39 [some (.ref t0), some (.int x1), some (.int x2)] [.long (-1)] (S, (hs_u I u0 0 s1), L, R)) := Eq.trans (r_putI d202_12 f202_63 o_u0.2.1) (Eq.trans (r_al_n d202_15 rfl) (Eq.trans (r_getI d202_16 f202_63 o_t0.2.1) (Eq.trans (r_zle d202_19 rfl) (q_ite (Eq.trans (r_al_n d202_28 rfl) (Eq.trans (r_getRe d202_29 f202_20 o_t0.2.1 (o_t0.2.2.2.2.2.2.1) (Nat.le_trans o_t0.1 (Nat.le_add_right _ _))) (Eq.trans (r_bp d202_32 kB_60) (Eq.trans (r_il_n d202_34 rfl) (Eq.trans (r_imul d202_35) (Eq.trans (r_il_n d202_36 rfl) (Eq.trans (r_iadd d202_37) (Eq.trans (r_lald d202_38 (o_t0.2.2.2.2.2.2.2.1)) (q_ite (rfl) rfl))))))))) (Eq.trans (r_ldc2 d202_22 cl202_91) (Eq.trans (r_goto d202_25 rfl) (rfl)))))))
theorem b202_39 {t0 : Nat} {x1 x2 : Int32} {v0 : Int64}  : hs_R scr d 202 39 [some (.ref t0), some (.int x1), some (.int x2)] [.long v0] (S, I, L, R) = some (some (.long v0), (S, I, L, R)) := r_rl d202_39 rt202
theorem e203 {t0 : Nat} {x1 : Int32} {x2 : Int32} {x3 : Int32} {x4 : Int32} {x5 : Int32} : hs_C scr d 203 [.ref t0, .int x1, .int x2, .int x3, .int x4, .int x5] h = hs_R scr d 203 0 [some (.ref t0), some (.int x1), some (.int x2), some (.int x3), some (.int x4), some (.int x5), none, none, none] [] h := by rw [hs_C, mL203]; rfl
theorem b203_0 {t0 : Nat} {x1 x2 x3 x4 x5 : Int32} (o_t0 : ok11 S R t0) : hs_R scr (d + 1) 203 0 [some (.ref t0), some (.int x1), some (.int x2), some (.int x3), some (.int x4), some (.int x5), none, none, none] [] (S, I, L, R) = (if x1 < 0 then hs_R scr (d + 1) 203 28 [some (.ref t0), some (.int x1), some (.int x2), some (.int x3), some (.int x4), some (.int x5), none, none, none] [] (S, (hs_u (hs_u I t0 1 0) t0 0 0), L, R) else (if (4 : Int32) ≤ x1 then hs_R scr (d + 1) 203 28 [some (.ref t0), some (.int x1), some (.int x2), some (.int x3), some (.int x4), some (.int x5), none, none, none] [] (S, (hs_u (hs_u I t0 1 0) t0 0 0), L, R) else (if x3 < 0 then hs_R scr (d + 1) 203 28 [some (.ref t0), some (.int x1), some (.int x2), some (.int x3), some (.int x4), some (.int x5), none, none, none] [] (S, (hs_u (hs_u I t0 1 0) t0 0 0), L, R) else (if x3 < 4 then (if hs_ib x1 4 = true then (if ((hs_u (hs_u I t0 1 0) t0 0 0) (t0 + 2) (Int32.toNatClampNeg x1)) < 0 then hs_R scr (d + 1) 203 52 [some (.ref t0), some (.int x1), some (.int x2), some (.int x3), some (.int x4), some (.int x5), none, none, none] [] (S, (hs_u (hs_u I t0 1 0) t0 0 0), L, R) else (if hs_ib x3 4 = true then (if (0 : Int32) ≤ ((hs_u (hs_u I t0 1 0) t0 0 0) (t0 + 2) (Int32.toNatClampNeg x3)) then (if hs_ib x1 4 = true then (if hs_ib x3 4 = true then (if ((hs_u (hs_u I t0 1 0) t0 0 0) (t0 + 1) (Int32.toNatClampNeg x1)) = ((hs_u (hs_u I t0 1 0) t0 0 0) (t0 + 1) (Int32.toNatClampNeg x3)) then (if (0 : Int32) ≤ x5 then (if x2 < 0 then hs_R scr (d + 1) 203 136 [some (.ref t0), some (.int x1), some (.int x2), some (.int x3), some (.int x4), some (.int x5), none, none, none] [] (S, (hs_u (hs_u I t0 1 0) t0 0 0), L, R) else (if x4 < 0 then hs_R scr (d + 1) 203 136 [some (.ref t0), some (.int x1), some (.int x2), some (.int x3), some (.int x4), some (.int x5), none, none, none] [] (S, (hs_u (hs_u I t0 1 0) t0 0 0), L, R) else (if hs_ib x1 4 = true then (if (0 : Int32) < (lg_cmp ((Int32.toInt64 x2) + (Int32.toInt64 x5)) (Int32.toInt64 ((hs_u (hs_u I t0 1 0) t0 0 0) (t0 + 2) (Int32.toNatClampNeg x1)))) then hs_R scr (d + 1) 203 136 [some (.ref t0), some (.int x1), some (.int x2), some (.int x3), some (.int x4), some (.int x5), none, none, none] [] (S, (hs_u (hs_u I t0 1 0) t0 0 0), L, R) else (if hs_ib x3 4 = true then (if (lg_cmp ((Int32.toInt64 x4) + (Int32.toInt64 x5)) (Int32.toInt64 ((hs_u (hs_u I t0 1 0) t0 0 0) (t0 + 2) (Int32.toNatClampNeg x3)))) ≤ 0 then (if x4 ≤ x2 then hs_R scr (d + 1) 203 153 [some (.ref t0), some (.int x1), some (.int x2), some (.int x3), some (.int x4), some (.int x5), none, none, none] [.int 0] (S, (hs_u (hs_u I t0 1 0) t0 0 0), L, R) else hs_R scr (d + 1) 203 153 [some (.ref t0), some (.int x1), some (.int x2), some (.int x3), some (.int x4), some (.int x5), none, none, none] [.int 1] (S, (hs_u (hs_u I t0 1 0) t0 0 0), L, R)) else hs_R scr (d + 1) 203 136 [some (.ref t0), some (.int x1), some (.int x2), some (.int x3), some (.int x4), some (.int x5), none, none, none] [] (S, (hs_u (hs_u I t0 1 0) t0 0 0), L, R)) else none)) else none))) else ((hs_C scr d 197 [.ref t0, .int 6] (S, (hs_u (hs_u I t0 1 0) t0 0 0), L, R)).bind fun o => hs_R scr (d + 1) 203 91 [some (.ref t0), some (.int x1), some (.int x2), some (.int x3), some (.int x4), some (.int x5), none, none, none] (o.1.toList ++ []) o.2)) else ((hs_C scr d 197 [.ref t0, .int 11] (S, (hs_u (hs_u I t0 1 0) t0 0 0), L, R)).bind fun o => hs_R scr (d + 1) 203 79 [some (.ref t0), some (.int x1), some (.int x2), some (.int x3), some (.int x4), some (.int x5), none, none, none] (o.1.toList ++ []) o.2)) else none) else none) else hs_R scr (d + 1) 203 52 [some (.ref t0), some (.int x1), some (.int x2), some (.int x3), some (.int x4), some (.int x5), none, none, none] [] (S, (hs_u (hs_u I t0 1 0) t0 0 0), L, R)) else none)) else none) else hs_R scr (d + 1) 203 28 [some (.ref t0), some (.int x1), some (.int x2), some (.int x3), some (.int x4), some (.int x5), none, none, none] [] (S, (hs_u (hs_u I t0 1 0) t0 0 0), L, R))))) := Eq.trans (r_al_n d203_0 rfl) (Eq.trans (r_ic d203_1 kI_0) (Eq.trans (r_putI d203_2 f203_60 o_t0.2.1) (Eq.trans (r_al_n d203_5 rfl) (Eq.trans (r_ic d203_6 kI_0) (Eq.trans (r_putI d203_7 f203_63 o_t0.2.1) (Eq.trans (r_il_n d203_10 rfl) (Eq.trans (r_zlt d203_11 rfl) (q_ite (rfl) (Eq.trans (r_il_n d203_14 rfl) (Eq.trans (r_ic d203_15 kI_4) (Eq.trans (r_cge d203_16 rfl) (q_ite (rfl) (Eq.trans (r_il_n d203_19 rfl) (Eq.trans (r_zlt d203_20 rfl) (q_ite (rfl) (Eq.trans (r_il_n d203_23 rfl) (Eq.trans (r_ic d203_24 kI_4) (Eq.trans (r_clt d203_25 rfl) (q_ite (Eq.trans (r_al_n d203_34 rfl) (Eq.trans (r_getRe d203_35 f203_17 o_t0.2.1 (o_t0.2.2.2.2.1) (Nat.le_trans o_t0.1 (Nat.le_add_right _ _))) (Eq.trans (r_il_n d203_38 rfl) (Eq.trans (r_iald d203_39 (o_t0.2.2.2.2.2.1)) (q_ite (Eq.trans (r_zlt d203_40 rfl) (q_ite (rfl) (Eq.trans (r_al_n d203_43 rfl) (Eq.trans (r_getRe d203_44 f203_17 o_t0.2.1 (o_t0.2.2.2.2.1) (Nat.le_trans o_t0.1 (Nat.le_add_right _ _))) (Eq.trans (r_il_n d203_47 rfl) (Eq.trans (r_iald d203_48 (o_t0.2.2.2.2.2.1)) (q_ite (Eq.trans (r_zge d203_49 rfl) (q_ite (Eq.trans (r_al_n d203_58 rfl) (Eq.trans (r_getRe d203_59 f203_13 o_t0.2.1 (o_t0.2.2.1) (Nat.le_trans o_t0.1 (Nat.le_add_right _ _))) (Eq.trans (r_il_n d203_62 rfl) (Eq.trans (r_iald d203_63 (o_t0.2.2.2.1)) (q_ite (Eq.trans (r_al_n d203_64 rfl) (Eq.trans (r_getRe d203_65 f203_13 o_t0.2.1 (o_t0.2.2.1) (Nat.le_trans o_t0.1 (Nat.le_add_right _ _))) (Eq.trans (r_il_n d203_68 rfl) (Eq.trans (r_iald d203_69 (o_t0.2.2.2.1)) (q_ite (Eq.trans (r_ceq d203_70 rfl) (q_ite (Eq.trans (r_il d203_80 rfl) (Eq.trans (r_zge d203_82 rfl) (q_ite (Eq.trans (r_il_n d203_92 rfl) (Eq.trans (r_zlt d203_93 rfl) (q_ite (rfl) (Eq.trans (r_il d203_96 rfl) (Eq.trans (r_zlt d203_98 rfl) (q_ite (rfl) (Eq.trans (r_il_n d203_101 rfl) (Eq.trans (r_i2l d203_102) (Eq.trans (r_il d203_103 rfl) (Eq.trans (r_i2l d203_105) (Eq.trans (r_ladd d203_106) (Eq.trans (r_al_n d203_107 rfl) (Eq.trans (r_getRe d203_108 f203_17 o_t0.2.1 (o_t0.2.2.2.2.1) (Nat.le_trans o_t0.1 (Nat.le_add_right _ _))) (Eq.trans (r_il_n d203_111 rfl) (Eq.trans (r_iald d203_112 (o_t0.2.2.2.2.2.1)) (q_ite (Eq.trans (r_i2l d203_113) (Eq.trans (r_lcmp d203_114) (Eq.trans (r_zgt d203_115 rfl) (q_ite (rfl) (Eq.trans (r_il d203_118 rfl) (Eq.trans (r_i2l d203_120) (Eq.trans (r_il d203_121 rfl) (Eq.trans (r_i2l d203_123) (Eq.trans (r_ladd d203_124) (Eq.trans (r_al_n d203_125 rfl) (Eq.trans (r_getRe d203_126 f203_17 o_t0.2.1 (o_t0.2.2.2.2.1) (Nat.le_trans o_t0.1 (Nat.le_add_right _ _))) (Eq.trans (r_il_n d203_129 rfl) (Eq.trans (r_iald d203_130 (o_t0.2.2.2.2.2.1)) (q_ite (Eq.trans (r_i2l d203_131) (Eq.trans (r_lcmp d203_132) (Eq.trans (r_zle d203_133 rfl) (q_ite (Eq.trans (r_il_n d203_142 rfl) (Eq.trans (r_il d203_143 rfl) (Eq.trans (r_cge d203_145 rfl) (q_ite (Eq.trans (r_ic d203_152 kI_0) (rfl)) (Eq.trans (r_ic d203_148 kI_1) (Eq.trans (r_goto d203_149 rfl) (rfl))))))) (rfl))))) rfl)))))))))))))) rfl)))))))))))))))) (Eq.trans (r_al_n d203_85 rfl) (Eq.trans (r_bp d203_86 kB_6) (r_cvE (as := [.int 6]) (r := []) d203_88 c203_75 ow197 o_t0.2.1 np197.symm rfl (hs_fitE mL197 (Nat.le_of_ble_eq_true rfl)))))))) (Eq.trans (r_al_n d203_73 rfl) (Eq.trans (r_bp d203_74 kB_11) (r_cvE (as := [.int 11]) (r := []) d203_76 c203_75 ow197 o_t0.2.1 np197.symm rfl (hs_fitE mL197 (Nat.le_of_ble_eq_true rfl))))))) rfl))))) rfl))))) (rfl))) rfl))))))) rfl))))) (rfl))))))))))))))))))))
theorem b203_28 {t0 : Nat} {x1 x2 x3 x4 x5 : Int32} (o_t0 : ok11 S R t0) : hs_R scr (d + 1) 203 28 [some (.ref t0), some (.int x1), some (.int x2), some (.int x3), some (.int x4), some (.int x5), none, none, none] [] (S, I, L, R) = ((hs_C scr d 197 [.ref t0, .int 1] (S, I, L, R)).bind fun o => hs_R scr (d + 1) 203 33 [some (.ref t0), some (.int x1), some (.int x2), some (.int x3), some (.int x4), some (.int x5), none, none, none] (o.1.toList ++ []) o.2) := Eq.trans (r_al_n d203_28 rfl) (Eq.trans (r_ic d203_29 kI_1) (r_cvE (as := [.int 1]) (r := []) d203_30 c203_75 ow197 o_t0.2.1 np197.symm rfl (hs_fitE mL197 (Nat.le_of_ble_eq_true rfl))))
theorem b203_33 {t0 : Nat} {x1 x2 x3 x4 x5 s0 : Int32}  : hs_R scr d 203 33 [some (.ref t0), some (.int x1), some (.int x2), some (.int x3), some (.int x4), some (.int x5), none, none, none] [.int s0] (S, I, L, R) = (if s0 = 0 ∨ s0 = 1 then some (some (.int s0), (S, I, L, R)) else none) := r_rz d203_33 rt203
theorem b203_52 {t0 : Nat} {x1 x2 x3 x4 x5 : Int32} (o_t0 : ok11 S R t0) : hs_R scr (d + 1) 203 52 [some (.ref t0), some (.int x1), some (.int x2), some (.int x3), some (.int x4), some (.int x5), none, none, none] [] (S, I, L, R) = ((hs_C scr d 197 [.ref t0, .int 3] (S, I, L, R)).bind fun o => hs_R scr (d + 1) 203 57 [some (.ref t0), some (.int x1), some (.int x2), some (.int x3), some (.int x4), some (.int x5), none, none, none] (o.1.toList ++ []) o.2) := Eq.trans (r_al_n d203_52 rfl) (Eq.trans (r_ic d203_53 kI_3) (r_cvE (as := [.int 3]) (r := []) d203_54 c203_75 ow197 o_t0.2.1 np197.symm rfl (hs_fitE mL197 (Nat.le_of_ble_eq_true rfl))))
theorem b203_57 {t0 : Nat} {x1 x2 x3 x4 x5 s0 : Int32}  : hs_R scr d 203 57 [some (.ref t0), some (.int x1), some (.int x2), some (.int x3), some (.int x4), some (.int x5), none, none, none] [.int s0] (S, I, L, R) = (if s0 = 0 ∨ s0 = 1 then some (some (.int s0), (S, I, L, R)) else none) := r_rz d203_57 rt203
theorem b203_79 {t0 : Nat} {x1 x2 x3 x4 x5 s0 : Int32}  : hs_R scr d 203 79 [some (.ref t0), some (.int x1), some (.int x2), some (.int x3), some (.int x4), some (.int x5), none, none, none] [.int s0] (S, I, L, R) = (if s0 = 0 ∨ s0 = 1 then some (some (.int s0), (S, I, L, R)) else none) := r_rz d203_79 rt203
theorem b203_91 {t0 : Nat} {x1 x2 x3 x4 x5 s0 : Int32}  : hs_R scr d 203 91 [some (.ref t0), some (.int x1), some (.int x2), some (.int x3), some (.int x4), some (.int x5), none, none, none] [.int s0] (S, I, L, R) = (if s0 = 0 ∨ s0 = 1 then some (some (.int s0), (S, I, L, R)) else none) := r_rz d203_91 rt203
theorem b203_136 {t0 : Nat} {x1 x2 x3 x4 x5 : Int32} (o_t0 : ok11 S R t0) : hs_R scr (d + 1) 203 136 [some (.ref t0), some (.int x1), some (.int x2), some (.int x3), some (.int x4), some (.int x5), none, none, none] [] (S, I, L, R) = ((hs_C scr d 197 [.ref t0, .int 4] (S, I, L, R)).bind fun o => hs_R scr (d + 1) 203 141 [some (.ref t0), some (.int x1), some (.int x2), some (.int x3), some (.int x4), some (.int x5), none, none, none] (o.1.toList ++ []) o.2) := Eq.trans (r_al_n d203_136 rfl) (Eq.trans (r_ic d203_137 kI_4) (r_cvE (as := [.int 4]) (r := []) d203_138 c203_75 ow197 o_t0.2.1 np197.symm rfl (hs_fitE mL197 (Nat.le_of_ble_eq_true rfl))))
theorem b203_141 {t0 : Nat} {x1 x2 x3 x4 x5 s0 : Int32}  : hs_R scr d 203 141 [some (.ref t0), some (.int x1), some (.int x2), some (.int x3), some (.int x4), some (.int x5), none, none, none] [.int s0] (S, I, L, R) = (if s0 = 0 ∨ s0 = 1 then some (some (.int s0), (S, I, L, R)) else none) := r_rz d203_141 rt203
theorem b203_153 {t0 : Nat} {x1 x2 x3 x4 x5 s0 : Int32}  : hs_R scr d 203 153 [some (.ref t0), some (.int x1), some (.int x2), some (.int x3), some (.int x4), some (.int x5), none, none, none] [.int s0] (S, I, L, R) = hs_R scr d 203 158 [some (.ref t0), some (.int x1), some (.int x2), some (.int x3), some (.int x4), some (.int x5), some (.int s0), some (.int 0), none] [] (S, I, L, R) := Eq.trans (r_is (loc' := [some (.ref t0), some (.int x1), some (.int x2), some (.int x3), some (.int x4), some (.int x5), some (.int s0), none, none]) d203_153 rfl) (Eq.trans (r_ic d203_155 kI_0) (Eq.trans (r_is (loc' := [some (.ref t0), some (.int x1), some (.int x2), some (.int x3), some (.int x4), some (.int x5), some (.int s0), some (.int 0), none]) d203_156 rfl) (rfl)))
theorem b203_158 {t0 : Nat} {x1 x2 x3 x4 x5 x6 x7 : Int32} {w8 : Option Value}  : hs_R scr d 203 158 [some (.ref t0), some (.int x1), some (.int x2), some (.int x3), some (.int x4), some (.int x5), some (.int x6), some (.int x7), w8] [] (S, I, L, R) = (if x5 ≤ x7 then some (some (.int 1), (S, I, L, R)) else (if x6 = 0 then hs_R scr d 203 182 [some (.ref t0), some (.int x1), some (.int x2), some (.int x3), some (.int x4), some (.int x5), some (.int x6), some (.int x7), w8] [.int x7] (S, I, L, R) else hs_R scr d 203 182 [some (.ref t0), some (.int x1), some (.int x2), some (.int x3), some (.int x4), some (.int x5), some (.int x6), some (.int x7), w8] [.int ((x5 - 1) - x7)] (S, I, L, R))) := Eq.trans (r_il d203_158 rfl) (Eq.trans (r_il d203_160 rfl) (Eq.trans (r_cge d203_162 rfl) (q_ite (Eq.trans (r_ic d203_219 kI_1) ((r_rz d203_220 rt203).trans (if_pos (Or.inr rfl)))) (Eq.trans (r_il d203_165 rfl) (Eq.trans (r_zeq d203_167 rfl) (q_ite (Eq.trans (r_il d203_180 rfl) (rfl)) (Eq.trans (r_il d203_170 rfl) (Eq.trans (r_ic d203_172 kI_1) (Eq.trans (r_isub d203_173) (Eq.trans (r_il d203_174 rfl) (Eq.trans (r_isub d203_176) (Eq.trans (r_goto d203_177 rfl) (rfl)))))))))))))
theorem b203_182 {t0 : Nat} {x1 x2 x3 x4 x5 x6 x7 s0 : Int32} {w8 : Option Value} (o_t0 : ok11 S R t0) : hs_R scr d 203 182 [some (.ref t0), some (.int x1), some (.int x2), some (.int x3), some (.int x4), some (.int x5), some (.int x6), some (.int x7), w8] [.int s0] (S, I, L, R) = (if hs_ib ((((60 : Int32) * x1) + x2) + s0) 240 = true then (if hs_ib ((((60 : Int32) * x3) + x4) + s0) 240 = true then hs_R scr d 203 158 [some (.ref t0), some (.int x1), some (.int x2), some (.int x3), some (.int x4), some (.int x5), some (.int x6), some (.int (x7 + 1)), some (.int s0)] [] (S, I, (hs_u L (t0 + 3) (Int32.toNatClampNeg ((((60 : Int32) * x3) + x4) + s0)) (L (t0 + 3) (Int32.toNatClampNeg ((((60 : Int32) * x1) + x2) + s0)))), R) else none) else none) := Eq.trans (r_is (loc' := [some (.ref t0), some (.int x1), some (.int x2), some (.int x3), some (.int x4), some (.int x5), some (.int x6), some (.int x7), some (.int s0)]) d203_182 rfl) (Eq.trans (r_al_n d203_184 rfl) (Eq.trans (r_getRe d203_185 f203_20 o_t0.2.1 (o_t0.2.2.2.2.2.2.1) (Nat.le_trans o_t0.1 (Nat.le_add_right _ _))) (Eq.trans (r_bp d203_188 kB_60) (Eq.trans (r_il_n d203_190 rfl) (Eq.trans (r_imul d203_191) (Eq.trans (r_il d203_192 rfl) (Eq.trans (r_iadd d203_194) (Eq.trans (r_il d203_195 rfl) (Eq.trans (r_iadd d203_197) (Eq.trans (r_al_n d203_198 rfl) (Eq.trans (r_getRe d203_199 f203_20 o_t0.2.1 (o_t0.2.2.2.2.2.2.1) (Nat.le_trans o_t0.1 (Nat.le_add_right _ _))) (Eq.trans (r_bp d203_202 kB_60) (Eq.trans (r_il_n d203_204 rfl) (Eq.trans (r_imul d203_205) (Eq.trans (r_il_n d203_206 rfl) (Eq.trans (r_iadd d203_207) (Eq.trans (r_il d203_208 rfl) (Eq.trans (r_iadd d203_210) (Eq.trans (r_lald d203_211 (o_t0.2.2.2.2.2.2.2.1)) (q_ite (Eq.trans (r_last d203_212 (o_t0.2.2.2.2.2.2.2.1)) (q_ite (Eq.trans (r_inc (loc' := [some (.ref t0), some (.int x1), some (.int x2), some (.int x3), some (.int x4), some (.int x5), some (.int x6), some (.int (x7 + 1)), some (.int s0)]) d203_213 kI_1 rfl rfl) (Eq.trans (r_goto d203_216 rfl) (rfl))) rfl)) rfl))))))))))))))))))))
theorem e204 {t0 : Nat} {x1 : Int32} {x2 : Int32} {x3 : Int32} {x4 : Int32} {x5 : Int32} : hs_C scr d 204 [.ref t0, .int x1, .int x2, .int x3, .int x4, .int x5] h = hs_R scr d 204 0 [some (.ref t0), some (.int x1), some (.int x2), some (.int x3), some (.int x4), some (.int x5)] [] h := by rw [hs_C, mL204]; rfl
theorem b204_0 {t0 : Nat} {x1 x2 x3 x4 x5 : Int32} (o_t0 : ok11 S R t0) : hs_R scr (d + 1) 204 0 [some (.ref t0), some (.int x1), some (.int x2), some (.int x3), some (.int x4), some (.int x5)] [] (S, I, L, R) = (if (((hs_u I t0 1 0) t0 8) + 20) ≤ 900 then ((hs_C scr d 205 [.ref t0, .int x1] (S, (hs_u I t0 1 0), L, R)).bind fun o => hs_R scr (d + 1) 204 25 [some (.ref t0), some (.int x1), some (.int x2), some (.int x3), some (.int x4), some (.int x5)] (o.1.toList ++ []) o.2) else some (some (.int (-1)), (S, (hs_u I t0 1 0), L, R))) := Eq.trans (r_al_n d204_0 rfl) (Eq.trans (r_ic d204_1 kI_0) (Eq.trans (r_putI d204_2 f204_60 o_t0.2.1) (Eq.trans (r_al_n d204_5 rfl) (Eq.trans (r_getI d204_6 f204_227 o_t0.2.1) (Eq.trans (r_bp d204_9 kB_20) (Eq.trans (r_iadd d204_11) (Eq.trans (r_sp d204_12 kS_900) (Eq.trans (r_cle d204_15 rfl) (q_ite (Eq.trans (r_al_n d204_20 rfl) (Eq.trans (r_il_n d204_21 rfl) (r_cvE (as := [.int x1]) (r := []) d204_22 c204_230 ow205 o_t0.2.1 np205.symm rfl (hs_fitE mL205 (Nat.le_of_ble_eq_true rfl))))) (Eq.trans (r_ic d204_18 kI_m1) (r_ri d204_19 rt204)))))))))))
theorem b204_25 {t0 : Nat} {x1 x2 x3 x4 x5 : Int32} (o_t0 : ok11 S R t0) : hs_R scr (d + 1) 204 25 [some (.ref t0), some (.int x1), some (.int x2), some (.int x3), some (.int x4), some (.int x5)] [] (S, I, L, R) = ((hs_C scr d 205 [.ref t0, .int x2] (S, I, L, R)).bind fun o => hs_R scr (d + 1) 204 30 [some (.ref t0), some (.int x1), some (.int x2), some (.int x3), some (.int x4), some (.int x5)] (o.1.toList ++ []) o.2) := Eq.trans (r_al_n d204_25 rfl) (Eq.trans (r_il_n d204_26 rfl) (r_cvE (as := [.int x2]) (r := []) d204_27 c204_230 ow205 o_t0.2.1 np205.symm rfl (hs_fitE mL205 (Nat.le_of_ble_eq_true rfl))))
theorem b204_30 {t0 : Nat} {x1 x2 x3 x4 x5 : Int32} (o_t0 : ok11 S R t0) : hs_R scr (d + 1) 204 30 [some (.ref t0), some (.int x1), some (.int x2), some (.int x3), some (.int x4), some (.int x5)] [] (S, I, L, R) = ((hs_C scr d 205 [.ref t0, .int x3] (S, I, L, R)).bind fun o => hs_R scr (d + 1) 204 35 [some (.ref t0), some (.int x1), some (.int x2), some (.int x3), some (.int x4), some (.int x5)] (o.1.toList ++ []) o.2) := Eq.trans (r_al_n d204_30 rfl) (Eq.trans (r_il_n d204_31 rfl) (r_cvE (as := [.int x3]) (r := []) d204_32 c204_230 ow205 o_t0.2.1 np205.symm rfl (hs_fitE mL205 (Nat.le_of_ble_eq_true rfl))))
theorem b204_35 {t0 : Nat} {x1 x2 x3 x4 x5 : Int32} (o_t0 : ok11 S R t0) : hs_R scr (d + 1) 204 35 [some (.ref t0), some (.int x1), some (.int x2), some (.int x3), some (.int x4), some (.int x5)] [] (S, I, L, R) = ((hs_C scr d 205 [.ref t0, .int x4] (S, I, L, R)).bind fun o => hs_R scr (d + 1) 204 41 [some (.ref t0), some (.int x1), some (.int x2), some (.int x3), some (.int x4), some (.int x5)] (o.1.toList ++ []) o.2) := Eq.trans (r_al_n d204_35 rfl) (Eq.trans (r_il d204_36 rfl) (r_cvE (as := [.int x4]) (r := []) d204_38 c204_230 ow205 o_t0.2.1 np205.symm rfl (hs_fitE mL205 (Nat.le_of_ble_eq_true rfl))))
theorem b204_41 {t0 : Nat} {x1 x2 x3 x4 x5 : Int32} (o_t0 : ok11 S R t0) : hs_R scr (d + 1) 204 41 [some (.ref t0), some (.int x1), some (.int x2), some (.int x3), some (.int x4), some (.int x5)] [] (S, I, L, R) = ((hs_C scr d 205 [.ref t0, .int x5] (S, I, L, R)).bind fun o => hs_R scr (d + 1) 204 47 [some (.ref t0), some (.int x1), some (.int x2), some (.int x3), some (.int x4), some (.int x5)] (o.1.toList ++ []) o.2) := Eq.trans (r_al_n d204_41 rfl) (Eq.trans (r_il d204_42 rfl) (r_cvE (as := [.int x5]) (r := []) d204_44 c204_230 ow205 o_t0.2.1 np205.symm rfl (hs_fitE mL205 (Nat.le_of_ble_eq_true rfl))))
theorem b204_47 {t0 : Nat} {x1 x2 x3 x4 x5 : Int32} (o_t0 : ok11 S R t0) : hs_R scr d 204 47 [some (.ref t0), some (.int x1), some (.int x2), some (.int x3), some (.int x4), some (.int x5)] [] (S, I, L, R) = some (some (.int (I t0 8)), (S, I, L, R)) := Eq.trans (r_al_n d204_47 rfl) (Eq.trans (r_getI d204_48 f204_227 o_t0.2.1) (r_ri d204_51 rt204))
theorem e205 {t0 : Nat} {x1 : Int32} : hs_C scr d 205 [.ref t0, .int x1] h = hs_R scr d 205 0 [some (.ref t0), some (.int x1), none] [] h := by rw [hs_C, mL205]; rfl
theorem b205_0 {t0 : Nat} {x1 : Int32}  : hs_R scr d 205 0 [some (.ref t0), some (.int x1), none] [] (S, I, L, R) = hs_R scr d 205 2 [some (.ref t0), some (.int x1), some (.int 3)] [] (S, I, L, R) := Eq.trans (r_ic d205_0 kI_3) (Eq.trans (r_is_n (loc' := [some (.ref t0), some (.int x1), some (.int 3)]) d205_1 rfl) (rfl))
theorem b205_2 {t0 : Nat} {x1 x2 : Int32} (o_t0 : ok11 S R t0) : hs_R scr d 205 2 [some (.ref t0), some (.int x1), some (.int x2)] [] (S, I, L, R) = (if x2 < 0 then some (none, (S, I, L, R)) else (if hs_ib (I t0 8) 900 = true then hs_R scr d 205 2 [some (.ref t0), some (.int x1), some (.int (x2 + (-1)))] [] (S, (hs_u (hs_u I (t0 + 4) (Int32.toNatClampNeg (I t0 8)) (vp_nar .byte (Int8.toInt32 (Int32.toInt8 (x1 >>> (((8 : Int32) * x2) &&& 31)))))) t0 8 (((hs_u I (t0 + 4) (Int32.toNatClampNeg (I t0 8)) (vp_nar .byte (Int8.toInt32 (Int32.toInt8 (x1 >>> (((8 : Int32) * x2) &&& 31)))))) t0 8) + 1)), L, R) else none)) := Eq.trans (r_il_n d205_2 rfl) (Eq.trans (r_zlt d205_3 rfl) (q_ite (r_rv d205_38 rt205) (Eq.trans (r_al_n d205_6 rfl) (Eq.trans (r_getRe d205_7 f205_24 o_t0.2.1 (o_t0.2.2.2.2.2.2.2.2.1) (Nat.le_trans o_t0.1 (Nat.le_add_right _ _))) (Eq.trans (r_al_n d205_10 rfl) (Eq.trans (r_getI d205_11 f205_227 o_t0.2.1) (Eq.trans (r_il_n d205_14 rfl) (Eq.trans (r_bp d205_15 kB_8) (Eq.trans (r_il_n d205_17 rfl) (Eq.trans (r_imul d205_18) (Eq.trans (r_ishr d205_19) (Eq.trans (r_i2b d205_20) (Eq.trans (r_bast d205_21 (o_t0.2.2.2.2.2.2.2.2.2.1)) (q_ite (Eq.trans (r_al_n d205_22 rfl) (Eq.trans (r_dup d205_23 rfl) (Eq.trans (r_getI d205_24 f205_227 o_t0.2.1) (Eq.trans (r_ic d205_27 kI_1) (Eq.trans (r_iadd d205_28) (Eq.trans (r_putI d205_29 f205_227 o_t0.2.1) (Eq.trans (r_inc (loc' := [some (.ref t0), some (.int x1), some (.int (x2 + (-1)))]) d205_32 kI_m1 rfl rfl) (Eq.trans (r_goto d205_35 rfl) (rfl))))))))) rfl))))))))))))))
theorem e206 {t0 : Nat} {x1 : Int32} : hs_C scr d 206 [.ref t0, .int x1] h = hs_R scr d 206 0 [some (.ref t0), some (.int x1)] [] h := by rw [hs_C, mL206]; rfl
theorem b206_0 {t0 : Nat} {x1 : Int32} (o_t0 : ok11 S R t0) : hs_R scr d 206 0 [some (.ref t0), some (.int x1)] [] (S, I, L, R) = (if x1 = 0 then hs_R scr d 206 29 [some (.ref t0), some (.int x1)] [.int ((hs_u I t0 1 0) t0 10)] (S, (hs_u I t0 1 0), L, R) else (if x1 = 1 then hs_R scr d 206 29 [some (.ref t0), some (.int x1)] [.int ((hs_u I t0 1 0) t0 11)] (S, (hs_u I t0 1 0), L, R) else hs_R scr d 206 29 [some (.ref t0), some (.int x1)] [.int (-1)] (S, (hs_u I t0 1 0), L, R))) := Eq.trans (r_al_n d206_0 rfl) (Eq.trans (r_ic d206_1 kI_0) (Eq.trans (r_putI d206_2 f206_60 o_t0.2.1) (Eq.trans (r_il_n d206_5 rfl) (Eq.trans (r_zne d206_6 rfl) (q_ite (Eq.trans (r_al_n d206_9 rfl) (Eq.trans (r_getI d206_10 f206_28 o_t0.2.1) (Eq.trans (r_goto d206_13 rfl) (rfl)))) (Eq.trans (r_il_n d206_16 rfl) (Eq.trans (r_ic d206_17 kI_1) (Eq.trans (r_cne d206_18 rfl) (q_ite (Eq.trans (r_al_n d206_21 rfl) (Eq.trans (r_getI d206_22 f206_32 o_t0.2.1) (Eq.trans (r_goto d206_25 rfl) (rfl)))) (Eq.trans (r_ic d206_28 kI_m1) (rfl)))))))))))
theorem b206_29 {t0 : Nat} {x1 s0 : Int32}  : hs_R scr d 206 29 [some (.ref t0), some (.int x1)] [.int s0] (S, I, L, R) = some (some (.int s0), (S, I, L, R)) := r_ri d206_29 rt206
theorem e207 {t0 : Nat} {x1 : Int32} : hs_C scr d 207 [.ref t0, .int x1] h = hs_R scr d 207 0 [some (.ref t0), some (.int x1)] [] h := by rw [hs_C, mL207]; rfl
theorem b207_0 {t0 : Nat} {x1 : Int32} (o_t0 : ok11 S R t0) : hs_R scr (d + 1) 207 0 [some (.ref t0), some (.int x1)] [] (S, I, L, R) = ((hs_C scr d 208 [.ref t0, .int x1, .int 900] (S, (hs_u (hs_u I t0 1 0) t0 0 0), L, R)).bind fun o => hs_R scr (d + 1) 207 18 [some (.ref t0), some (.int x1)] (o.1.toList ++ []) o.2) := Eq.trans (r_al_n d207_0 rfl) (Eq.trans (r_ic d207_1 kI_0) (Eq.trans (r_putI d207_2 f207_60 o_t0.2.1) (Eq.trans (r_al_n d207_5 rfl) (Eq.trans (r_ic d207_6 kI_0) (Eq.trans (r_putI d207_7 f207_63 o_t0.2.1) (Eq.trans (r_al_n d207_10 rfl) (Eq.trans (r_il_n d207_11 rfl) (Eq.trans (r_sp d207_12 kS_900) (r_cvE (as := [.int x1, .int 900]) (r := []) d207_15 c207_290 ow208 o_t0.2.1 np208.symm rfl (hs_fitE mL208 (Nat.le_of_ble_eq_true rfl)))))))))))
theorem b207_18 {t0 : Nat} {x1 s0 : Int32} (o_t0 : ok11 S R t0) : hs_R scr (d + 1) 207 18 [some (.ref t0), some (.int x1)] [.int s0] (S, I, L, R) = (if s0 = 0 then some (some (.int (-1)), (S, I, L, R)) else ((hs_C scr d 192 [.ref t0, .int 4] (S, I, L, R)).bind fun o => hs_R scr (d + 1) 207 28 [some (.ref t0), some (.int x1)] (o.1.toList ++ []) o.2)) := Eq.trans (r_zne d207_18 rfl) (q_ite (Eq.trans (r_ic d207_21 kI_m1) (r_ri d207_22 rt207)) (Eq.trans (r_al_n d207_23 rfl) (Eq.trans (r_ic d207_24 kI_4) (r_cvE (as := [.int 4]) (r := []) d207_25 c207_56 ow192 o_t0.2.1 np192.symm rfl (hs_fitE mL192 (Nat.le_of_ble_eq_true rfl))))))
theorem b207_28 {t0 : Nat} {x1 : Int32} (o_t0 : ok11 S R t0) : hs_R scr d 207 28 [some (.ref t0), some (.int x1)] [] (S, I, L, R) = hs_R scr d 207 33 [some (.ref t0), some (.int x1)] [] (S, (hs_u I t0 25 0), L, R) := Eq.trans (r_al_n d207_28 rfl) (Eq.trans (r_ic d207_29 kI_0) (Eq.trans (r_putI d207_30 f207_251 o_t0.2.1) (rfl)))
theorem b207_33 {t0 : Nat} {x1 : Int32} (o_t0 : ok11 S R t0) : hs_R scr (d + 1) 207 33 [some (.ref t0), some (.int x1)] [] (S, I, L, R) = (if (I t0 12) = 0 then (if (I t0 14) = 0 then hs_R scr (d + 1) 207 64 [some (.ref t0), some (.int x1)] [] (S, I, L, R) else ((hs_C scr d 214 [.ref t0] (S, I, L, R)).bind fun o => hs_R scr (d + 1) 207 51 [some (.ref t0), some (.int x1)] (o.1.toList ++ []) o.2)) else hs_R scr (d + 1) 207 64 [some (.ref t0), some (.int x1)] [] (S, I, L, R)) := Eq.trans (r_al_n d207_33 rfl) (Eq.trans (r_getI d207_34 f207_204 o_t0.2.1) (Eq.trans (r_zne d207_37 rfl) (q_ite (Eq.trans (r_al_n d207_40 rfl) (Eq.trans (r_getI d207_41 f207_115 o_t0.2.1) (Eq.trans (r_zeq d207_44 rfl) (q_ite (rfl) (Eq.trans (r_al_n d207_47 rfl) (r_cvE (as := []) (r := []) d207_48 c207_293 ow214 o_t0.2.1 np214.symm rfl (hs_fitE mL214 (Nat.le_of_ble_eq_true rfl)))))))) (rfl))))
theorem b207_51 {t0 : Nat} {x1 : Int32} (o_t0 : ok11 S R t0) : hs_R scr (d + 1) 207 51 [some (.ref t0), some (.int x1)] [] (S, I, L, R) = ((hs_C scr d 257 [.ref t0, .int 59] (S, I, L, R)).bind fun o => hs_R scr (d + 1) 207 58 [some (.ref t0), some (.int x1)] (o.1.toList ++ [.ref t0]) o.2) := Eq.trans (r_al_n d207_51 rfl) (Eq.trans (r_al_n d207_52 rfl) (Eq.trans (r_bp d207_53 kB_59) (r_cvE (as := [.int 59]) (r := [.ref t0]) d207_55 c207_296 ow257 o_t0.2.1 np257.symm rfl (hs_fitE mL257 (Nat.le_of_ble_eq_true rfl)))))
theorem b207_58 {t0 u0 : Nat} {x1 s1 : Int32} (o_u0 : ok11 S R u0) : hs_R scr (d + 1) 207 58 [some (.ref t0), some (.int x1)] [.int s1, .ref u0] (S, I, L, R) = ((hs_C scr d 248 [.ref u0, .int s1] (S, I, L, R)).bind fun o => hs_R scr (d + 1) 207 61 [some (.ref t0), some (.int x1)] (o.1.toList ++ []) o.2) := r_cvE (as := [.int s1]) (r := []) d207_58 c207_220 ow248 o_u0.2.1 np248.symm rfl (hs_fitE mL248 (Nat.le_of_ble_eq_true rfl))
theorem b207_61 {t0 : Nat} {x1 : Int32}  : hs_R scr d 207 61 [some (.ref t0), some (.int x1)] [] (S, I, L, R) = hs_R scr d 207 33 [some (.ref t0), some (.int x1)] [] (S, I, L, R) := Eq.trans (r_goto d207_61 rfl) (rfl)
theorem b207_64 {t0 : Nat} {x1 : Int32} (o_t0 : ok11 S R t0) : hs_R scr (d + 1) 207 64 [some (.ref t0), some (.int x1)] [] (S, I, L, R) = ((hs_C scr d 258 [.ref t0] (S, I, L, R)).bind fun o => hs_R scr (d + 1) 207 68 [some (.ref t0), some (.int x1)] (o.1.toList ++ []) o.2) := Eq.trans (r_al_n d207_64 rfl) (r_cvE (as := []) (r := []) d207_65 c207_299 ow258 o_t0.2.1 np258.symm rfl (hs_fitE mL258 (Nat.le_of_ble_eq_true rfl)))
theorem b207_68 {t0 : Nat} {x1 s0 : Int32} (o_t0 : ok11 S R t0) : hs_R scr (d + 1) 207 68 [some (.ref t0), some (.int x1)] [.int s0] (S, I, L, R) = (if s0 = 0 then some (some (.int (-1)), (S, I, L, R)) else ((hs_C scr d 259 [.ref t0, .int 4, .int 0] (S, I, L, R)).bind fun o => hs_R scr (d + 1) 207 79 [some (.ref t0), some (.int x1)] (o.1.toList ++ []) o.2)) := Eq.trans (r_zne d207_68 rfl) (q_ite (Eq.trans (r_ic d207_71 kI_m1) (r_ri d207_72 rt207)) (Eq.trans (r_al_n d207_73 rfl) (Eq.trans (r_ic d207_74 kI_4) (Eq.trans (r_ic d207_75 kI_0) (r_cvE (as := [.int 4, .int 0]) (r := []) d207_76 c207_302 ow259 o_t0.2.1 np259.symm rfl (hs_fitE mL259 (Nat.le_of_ble_eq_true rfl)))))))
theorem b207_79 {t0 : Nat} {x1 : Int32} (o_t0 : ok11 S R t0) : hs_R scr d 207 79 [some (.ref t0), some (.int x1)] [] (S, I, L, R) = some (some (.int (I (t0 + 5) 0)), (S, I, L, R)) := Eq.trans (r_al_n d207_79 rfl) (Eq.trans (r_getRe d207_80 f207_35 o_t0.2.1 (o_t0.2.2.2.2.2.2.2.2.2.2.1) (Nat.le_trans o_t0.1 (Nat.le_add_right _ _))) (Eq.trans (r_ic d207_83 kI_0) (Eq.trans ((r_ialdC d207_84 (o_t0.2.2.2.2.2.2.2.2.2.2.2.1) ib_0_1995 tn_0)) (r_ri d207_85 rt207))))
theorem e208 {t0 : Nat} {x1 : Int32} {x2 : Int32} : hs_C scr d 208 [.ref t0, .int x1, .int x2] h = hs_R scr d 208 0 [some (.ref t0), some (.int x1), some (.int x2)] [] h := by rw [hs_C, mL208]; rfl
theorem b208_0 {t0 : Nat} {x1 x2 : Int32} (o_t0 : ok11 S R t0) : hs_R scr (d + 1) 208 0 [some (.ref t0), some (.int x1), some (.int x2)] [] (S, I, L, R) = (if x1 < 0 then hs_R scr (d + 1) 208 17 [some (.ref t0), some (.int x1), some (.int x2)] [] (S, I, L, R) else (if (I t0 8) < x1 then hs_R scr (d + 1) 208 17 [some (.ref t0), some (.int x1), some (.int x2)] [] (S, I, L, R) else (if x1 ≤ x2 then ((hs_C scr d 209 [.ref t0] (S, (hs_u (hs_u (hs_u (hs_u I t0 9 x1) t0 8 0) t0 16 0) t0 12 0), L, R)).bind fun o => hs_R scr (d + 1) 208 47 [some (.ref t0), some (.int x1), some (.int x2)] (o.1.toList ++ []) o.2) else hs_R scr (d + 1) 208 17 [some (.ref t0), some (.int x1), some (.int x2)] [] (S, I, L, R)))) := Eq.trans (r_il_n d208_0 rfl) (Eq.trans (r_zlt d208_1 rfl) (q_ite (rfl) (Eq.trans (r_il_n d208_4 rfl) (Eq.trans (r_al_n d208_5 rfl) (Eq.trans (r_getI d208_6 f208_227 o_t0.2.1) (Eq.trans (r_cgt d208_9 rfl) (q_ite (rfl) (Eq.trans (r_il_n d208_12 rfl) (Eq.trans (r_il_n d208_13 rfl) (Eq.trans (r_cle d208_14 rfl) (q_ite (Eq.trans (r_al_n d208_23 rfl) (Eq.trans (r_il_n d208_24 rfl) (Eq.trans (r_putI d208_25 f208_103 o_t0.2.1) (Eq.trans (r_al_n d208_28 rfl) (Eq.trans (r_ic d208_29 kI_0) (Eq.trans (r_putI d208_30 f208_227 o_t0.2.1) (Eq.trans (r_al_n d208_33 rfl) (Eq.trans (r_ic d208_34 kI_0) (Eq.trans (r_putI d208_35 f208_106 o_t0.2.1) (Eq.trans (r_al_n d208_38 rfl) (Eq.trans (r_ic d208_39 kI_0) (Eq.trans (r_putI d208_40 f208_204 o_t0.2.1) (Eq.trans (r_al_n d208_43 rfl) (r_cvE (as := []) (r := []) d208_44 c208_214 ow209 o_t0.2.1 np209.symm rfl (hs_fitE mL209 (Nat.le_of_ble_eq_true rfl)))))))))))))))) (rfl))))))))))))
theorem b208_17 {t0 : Nat} {x1 x2 : Int32} (o_t0 : ok11 S R t0) : hs_R scr (d + 1) 208 17 [some (.ref t0), some (.int x1), some (.int x2)] [] (S, I, L, R) = ((hs_C scr d 197 [.ref t0, .int 5] (S, I, L, R)).bind fun o => hs_R scr (d + 1) 208 22 [some (.ref t0), some (.int x1), some (.int x2)] (o.1.toList ++ []) o.2) := Eq.trans (r_al_n d208_17 rfl) (Eq.trans (r_ic d208_18 kI_5) (r_cvE (as := [.int 5]) (r := []) d208_19 c208_75 ow197 o_t0.2.1 np197.symm rfl (hs_fitE mL197 (Nat.le_of_ble_eq_true rfl))))
theorem b208_22 {t0 : Nat} {x1 x2 s0 : Int32}  : hs_R scr d 208 22 [some (.ref t0), some (.int x1), some (.int x2)] [.int s0] (S, I, L, R) = (if s0 = 0 ∨ s0 = 1 then some (some (.int s0), (S, I, L, R)) else none) := r_rz d208_22 rt208
theorem b208_47 {t0 : Nat} {x1 x2 : Int32}  : hs_R scr d 208 47 [some (.ref t0), some (.int x1), some (.int x2)] [] (S, I, L, R) = some (some (.int 1), (S, I, L, R)) := Eq.trans (r_ic d208_47 kI_1) ((r_rz d208_48 rt208).trans (if_pos (Or.inr rfl)))
theorem e209 {t0 : Nat} : hs_C scr d 209 [.ref t0] h = hs_R scr d 209 0 [some (.ref t0), none] [] h := by rw [hs_C, mL209]; rfl
theorem b209_0 {t0 : Nat} (o_t0 : ok11 S R t0) : hs_R scr d 209 0 [some (.ref t0), none] [] (S, I, L, R) = hs_R scr d 209 8 [some (.ref t0), none] [] (S, (hs_u I t0 15 (I t0 16)), L, R) := Eq.trans (r_al_n d209_0 rfl) (Eq.trans (r_al_n d209_1 rfl) (Eq.trans (r_getI d209_2 f209_106 o_t0.2.1) (Eq.trans (r_putI d209_5 f209_109 o_t0.2.1) (rfl))))
theorem b209_8 {t0 : Nat} (o_t0 : ok11 S R t0) : hs_R scr (d + 1) 209 8 [some (.ref t0), none] [] (S, I, L, R) = (if (I t0 9) ≤ (I t0 15) then hs_R scr (d + 1) 209 58 [some (.ref t0), none] [] (S, I, L, R) else ((hs_C scr d 210 [.ref t0, .int (I t0 15)] (S, I, L, R)).bind fun o => hs_R scr (d + 1) 209 27 [some (.ref t0), none] (o.1.toList ++ []) o.2)) := Eq.trans (r_al_n d209_8 rfl) (Eq.trans (r_getI d209_9 f209_109 o_t0.2.1) (Eq.trans (r_al_n d209_12 rfl) (Eq.trans (r_getI d209_13 f209_103 o_t0.2.1) (Eq.trans (r_cge d209_16 rfl) (q_ite (rfl) (Eq.trans (r_al_n d209_19 rfl) (Eq.trans (r_al_n d209_20 rfl) (Eq.trans (r_getI d209_21 f209_109 o_t0.2.1) (r_cvE (as := [.int (I t0 15)]) (r := []) d209_24 c209_112 ow210 o_t0.2.1 np210.symm rfl (hs_fitE mL210 (Nat.le_of_ble_eq_true rfl)))))))))))
theorem b209_27 {t0 : Nat} {s0 : Int32} (o_t0 : ok11 S R t0) : hs_R scr (d + 1) 209 27 [some (.ref t0), none] [.int s0] (S, I, L, R) = (if s0 = 10 then hs_R scr (d + 1) 209 45 [some (.ref t0), none] [] (S, I, L, R) else ((hs_C scr d 210 [.ref t0, .int (I t0 15)] (S, I, L, R)).bind fun o => hs_R scr (d + 1) 209 40 [some (.ref t0), none] (o.1.toList ++ []) o.2)) := Eq.trans (r_bp d209_27 kB_10) (Eq.trans (r_ceq d209_29 rfl) (q_ite (rfl) (Eq.trans (r_al_n d209_32 rfl) (Eq.trans (r_al_n d209_33 rfl) (Eq.trans (r_getI d209_34 f209_109 o_t0.2.1) (r_cvE (as := [.int (I t0 15)]) (r := []) d209_37 c209_112 ow210 o_t0.2.1 np210.symm rfl (hs_fitE mL210 (Nat.le_of_ble_eq_true rfl))))))))
theorem b209_40 {t0 : Nat} {s0 : Int32}  : hs_R scr d 209 40 [some (.ref t0), none] [.int s0] (S, I, L, R) = (if s0 = 32 then hs_R scr d 209 45 [some (.ref t0), none] [] (S, I, L, R) else hs_R scr d 209 58 [some (.ref t0), none] [] (S, I, L, R)) := Eq.trans (r_bp d209_40 kB_32) (Eq.trans (r_cne d209_42 rfl) (q_ite (rfl) (rfl)))
theorem b209_45 {t0 : Nat} (o_t0 : ok11 S R t0) : hs_R scr d 209 45 [some (.ref t0), none] [] (S, I, L, R) = hs_R scr d 209 8 [some (.ref t0), none] [] (S, (hs_u I t0 15 ((I t0 15) + 1)), L, R) := Eq.trans (r_al_n d209_45 rfl) (Eq.trans (r_dup d209_46 rfl) (Eq.trans (r_getI d209_47 f209_109 o_t0.2.1) (Eq.trans (r_ic d209_50 kI_1) (Eq.trans (r_iadd d209_51) (Eq.trans (r_putI d209_52 f209_109 o_t0.2.1) (Eq.trans (r_goto d209_55 rfl) (rfl)))))))
theorem b209_58 {t0 : Nat} (o_t0 : ok11 S R t0) : hs_R scr (d + 1) 209 58 [some (.ref t0), none] [] (S, I, L, R) = (if ((hs_u I t0 16 (I t0 15)) t0 15) < ((hs_u I t0 16 (I t0 15)) t0 9) then ((hs_C scr d 210 [.ref t0, .int ((hs_u I t0 16 (I t0 15)) t0 15)] (S, (hs_u I t0 16 (I t0 15)), L, R)).bind fun o => hs_R scr (d + 1) 209 91 [some (.ref t0), none] (o.1.toList ++ []) o.2) else some (none, (S, (hs_u (hs_u I t0 16 (I t0 15)) t0 14 0), L, R))) := Eq.trans (r_al_n d209_58 rfl) (Eq.trans (r_al_n d209_59 rfl) (Eq.trans (r_getI d209_60 f209_109 o_t0.2.1) (Eq.trans (r_putI d209_63 f209_106 o_t0.2.1) (Eq.trans (r_al_n d209_66 rfl) (Eq.trans (r_getI d209_67 f209_109 o_t0.2.1) (Eq.trans (r_al_n d209_70 rfl) (Eq.trans (r_getI d209_71 f209_103 o_t0.2.1) (Eq.trans (r_clt d209_74 rfl) (q_ite (Eq.trans (r_al_n d209_83 rfl) (Eq.trans (r_al_n d209_84 rfl) (Eq.trans (r_getI d209_85 f209_109 o_t0.2.1) (r_cvE (as := [.int ((hs_u I t0 16 (I t0 15)) t0 15)]) (r := []) d209_88 c209_112 ow210 o_t0.2.1 np210.symm rfl (hs_fitE mL210 (Nat.le_of_ble_eq_true rfl)))))) (Eq.trans (r_al_n d209_77 rfl) (Eq.trans (r_ic d209_78 kI_0) (Eq.trans (r_putI d209_79 f209_115 o_t0.2.1) (r_rv d209_82 rt209)))))))))))))
theorem b209_91 {t0 : Nat} {s0 : Int32}  : hs_R scr (d + 1) 209 91 [some (.ref t0), none] [.int s0] (S, I, L, R) = ((hs_C scr d 211 [.int s0] (S, I, L, R)).bind fun o => hs_R scr (d + 1) 209 96 [some (.ref t0), some (.int s0)] (o.1.toList ++ []) o.2) := Eq.trans (r_is_n (loc' := [some (.ref t0), some (.int s0)]) d209_91 rfl) (Eq.trans (r_il_n d209_92 rfl) (r_cs (as := [.int s0]) (r := []) d209_93 c209_118 np211.symm rfl (hs_fitE mL211 (Nat.le_of_ble_eq_true rfl))))
theorem b209_96 {t0 : Nat} {x1 s0 : Int32} (o_t0 : ok11 S R t0) : hs_R scr (d + 1) 209 96 [some (.ref t0), some (.int x1)] [.int s0] (S, I, L, R) = (if s0 = 0 then ((hs_C scr d 212 [.int x1] (S, I, L, R)).bind fun o => hs_R scr (d + 1) 209 202 [some (.ref t0), some (.int x1)] (o.1.toList ++ []) o.2) else hs_R scr (d + 1) 209 109 [some (.ref t0), some (.int x1)] [] (S, (hs_u I t0 14 1), (hs_u L t0 19 0), R)) := Eq.trans (r_zeq d209_96 rfl) (q_ite (Eq.trans (r_il_n d209_198 rfl) (r_cs (as := [.int x1]) (r := []) d209_199 c209_131 np212.symm rfl (hs_fitE mL212 (Nat.le_of_ble_eq_true rfl)))) (Eq.trans (r_al_n d209_99 rfl) (Eq.trans (r_ic d209_100 kI_1) (Eq.trans (r_putI d209_101 f209_115 o_t0.2.1) (Eq.trans (r_al_n d209_104 rfl) (Eq.trans (r_lc d209_105 kL_0) (Eq.trans (r_putL d209_106 f209_121 o_t0.2.1) (rfl))))))))
theorem b209_109 {t0 : Nat} {x1 : Int32} (o_t0 : ok11 S R t0) : hs_R scr (d + 1) 209 109 [some (.ref t0), some (.int x1)] [] (S, I, L, R) = ((hs_C scr d 210 [.ref t0, .int (I t0 16)] (S, I, L, R)).bind fun o => hs_R scr (d + 1) 209 117 [some (.ref t0), some (.int x1)] (o.1.toList ++ []) o.2) := Eq.trans (r_al_n d209_109 rfl) (Eq.trans (r_al_n d209_110 rfl) (Eq.trans (r_getI d209_111 f209_106 o_t0.2.1) (r_cvE (as := [.int (I t0 16)]) (r := []) d209_114 c209_112 ow210 o_t0.2.1 np210.symm rfl (hs_fitE mL210 (Nat.le_of_ble_eq_true rfl)))))
theorem b209_117 {t0 : Nat} {x1 s0 : Int32}  : hs_R scr (d + 1) 209 117 [some (.ref t0), some (.int x1)] [.int s0] (S, I, L, R) = ((hs_C scr d 211 [.int s0] (S, I, L, R)).bind fun o => hs_R scr (d + 1) 209 120 [some (.ref t0), some (.int x1)] (o.1.toList ++ []) o.2) := r_cs (as := [.int s0]) (r := []) d209_117 c209_118 np211.symm rfl (hs_fitE mL211 (Nat.le_of_ble_eq_true rfl))
theorem b209_120 {t0 : Nat} {x1 s0 : Int32} (o_t0 : ok11 S R t0) : hs_R scr (d + 1) 209 120 [some (.ref t0), some (.int x1)] [.int s0] (S, I, L, R) = (if s0 = 0 then hs_R scr (d + 1) 209 330 [some (.ref t0), some (.int x1)] [] (S, (hs_u I t0 18 ((I t0 16) - (I t0 15))), L, R) else (if (8 : Int32) ≤ ((I t0 16) - (I t0 15)) then hs_R scr (d + 1) 209 166 [some (.ref t0), some (.int x1)] [.long (-1), .ref t0] (S, I, L, R) else ((hs_C scr d 210 [.ref t0, .int (I t0 16)] (S, I, L, R)).bind fun o => hs_R scr (d + 1) 209 154 [some (.ref t0), some (.int x1)] (o.1.toList ++ [.long ((L t0 19) * 32), .ref t0]) o.2))) := Eq.trans (r_zeq d209_120 rfl) (q_ite (Eq.trans (r_al_n d209_182 rfl) (Eq.trans (r_al_n d209_183 rfl) (Eq.trans (r_getI d209_184 f209_106 o_t0.2.1) (Eq.trans (r_al_n d209_187 rfl) (Eq.trans (r_getI d209_188 f209_109 o_t0.2.1) (Eq.trans (r_isub d209_191) (Eq.trans (r_putI d209_192 f209_128 o_t0.2.1) (Eq.trans (r_goto d209_195 rfl) (rfl))))))))) (Eq.trans (r_al_n d209_123 rfl) (Eq.trans (r_al_n d209_124 rfl) (Eq.trans (r_getI d209_125 f209_106 o_t0.2.1) (Eq.trans (r_al_n d209_128 rfl) (Eq.trans (r_getI d209_129 f209_109 o_t0.2.1) (Eq.trans (r_isub d209_132) (Eq.trans (r_bp d209_133 kB_8) (Eq.trans (r_cge d209_135 rfl) (q_ite (Eq.trans (r_ldc2 d209_163 cl209_91) (rfl)) (Eq.trans (r_al_n d209_138 rfl) (Eq.trans (r_getL d209_139 f209_121 o_t0.2.1) (Eq.trans (r_ldc2 d209_142 cl209_124) (Eq.trans (r_lmul d209_145) (Eq.trans (r_al_n d209_146 rfl) (Eq.trans (r_al_n d209_147 rfl) (Eq.trans (r_getI d209_148 f209_106 o_t0.2.1) (r_cvE (as := [.int (I t0 16)]) (r := [.long ((L t0 19) * 32), .ref t0]) d209_151 c209_112 ow210 o_t0.2.1 np210.symm rfl (hs_fitE mL210 (Nat.le_of_ble_eq_true rfl))))))))))))))))))))
theorem b209_154 {t0 u0 : Nat} {x1 s2 : Int32} {v1 : Int64}  : hs_R scr d 209 154 [some (.ref t0), some (.int x1)] [.int s2, .long v1, .ref u0] (S, I, L, R) = hs_R scr d 209 166 [some (.ref t0), some (.int x1)] [.long ((v1 + (Int32.toInt64 s2)) - 96), .ref u0] (S, I, L, R) := Eq.trans (r_i2l d209_154) (Eq.trans (r_ladd d209_155) (Eq.trans (r_ldc2 d209_156 cl209_126) (Eq.trans (r_lsub d209_159) (Eq.trans (r_goto d209_160 rfl) (rfl)))))
theorem b209_166 {t0 u0 : Nat} {x1 : Int32} {v1 : Int64} (o_u0 : ok11 S R u0) (o_t0 : ok11 S R t0) : hs_R scr d 209 166 [some (.ref t0), some (.int x1)] [.long v1, .ref u0] (S, I, L, R) = hs_R scr d 209 109 [some (.ref t0), some (.int x1)] [] (S, (hs_u I t0 16 ((I t0 16) + 1)), (hs_u L u0 19 v1), R) := Eq.trans (r_putL d209_166 f209_121 o_u0.2.1) (Eq.trans (r_al_n d209_169 rfl) (Eq.trans (r_dup d209_170 rfl) (Eq.trans (r_getI d209_171 f209_106 o_t0.2.1) (Eq.trans (r_ic d209_174 kI_1) (Eq.trans (r_iadd d209_175) (Eq.trans (r_putI d209_176 f209_106 o_t0.2.1) (Eq.trans (r_goto d209_179 rfl) (rfl))))))))
theorem b209_202 {t0 : Nat} {x1 s0 : Int32} (o_t0 : ok11 S R t0) : hs_R scr (d + 1) 209 202 [some (.ref t0), some (.int x1)] [.int s0] (S, I, L, R) = (if s0 = 0 then ((hs_C scr d 213 [.ref t0, .int x1] (S, (hs_u (hs_u I t0 16 ((I t0 15) + 1)) t0 17 x1), L, R)).bind fun o => hs_R scr (d + 1) 209 319 [some (.ref t0), some (.int x1)] (o.1.toList ++ [.ref t0]) o.2) else hs_R scr (d + 1) 209 210 [some (.ref t0), some (.int x1)] [] (S, (hs_u I t0 17 0), L, R)) := Eq.trans (r_zeq d209_202 rfl) (q_ite (Eq.trans (r_al_n d209_298 rfl) (Eq.trans (r_al_n d209_299 rfl) (Eq.trans (r_getI d209_300 f209_109 o_t0.2.1) (Eq.trans (r_ic d209_303 kI_1) (Eq.trans (r_iadd d209_304) (Eq.trans (r_putI d209_305 f209_106 o_t0.2.1) (Eq.trans (r_al_n d209_308 rfl) (Eq.trans (r_il_n d209_309 rfl) (Eq.trans (r_putI d209_310 f209_134 o_t0.2.1) (Eq.trans (r_al_n d209_313 rfl) (Eq.trans (r_al_n d209_314 rfl) (Eq.trans (r_il_n d209_315 rfl) (r_cvE (as := [.int x1]) (r := [.ref t0]) d209_316 c209_137 ow213 o_t0.2.1 np213.symm rfl (hs_fitE mL213 (Nat.le_of_ble_eq_true rfl))))))))))))))) (Eq.trans (r_al_n d209_205 rfl) (Eq.trans (r_ic d209_206 kI_0) (Eq.trans (r_putI d209_207 f209_134 o_t0.2.1) (rfl)))))
theorem b209_210 {t0 : Nat} {x1 : Int32} (o_t0 : ok11 S R t0) : hs_R scr (d + 1) 209 210 [some (.ref t0), some (.int x1)] [] (S, I, L, R) = ((hs_C scr d 210 [.ref t0, .int (I t0 16)] (S, I, L, R)).bind fun o => hs_R scr (d + 1) 209 218 [some (.ref t0), some (.int x1)] (o.1.toList ++ []) o.2) := Eq.trans (r_al_n d209_210 rfl) (Eq.trans (r_al_n d209_211 rfl) (Eq.trans (r_getI d209_212 f209_106 o_t0.2.1) (r_cvE (as := [.int (I t0 16)]) (r := []) d209_215 c209_112 ow210 o_t0.2.1 np210.symm rfl (hs_fitE mL210 (Nat.le_of_ble_eq_true rfl)))))
theorem b209_218 {t0 : Nat} {x1 s0 : Int32}  : hs_R scr (d + 1) 209 218 [some (.ref t0), some (.int x1)] [.int s0] (S, I, L, R) = ((hs_C scr d 212 [.int s0] (S, I, L, R)).bind fun o => hs_R scr (d + 1) 209 221 [some (.ref t0), some (.int x1)] (o.1.toList ++ []) o.2) := r_cs (as := [.int s0]) (r := []) d209_218 c209_131 np212.symm rfl (hs_fitE mL212 (Nat.le_of_ble_eq_true rfl))
theorem b209_221 {t0 : Nat} {x1 s0 : Int32} (o_t0 : ok11 S R t0) : hs_R scr (d + 1) 209 221 [some (.ref t0), some (.int x1)] [.int s0] (S, I, L, R) = (if s0 = 0 then (if ((I t0 16) - (I t0 15)) ≤ 4 then hs_R scr (d + 1) 209 292 [some (.ref t0), some (.int x1)] [.int 2, .ref t0] (S, I, L, R) else hs_R scr (d + 1) 209 292 [some (.ref t0), some (.int x1)] [.int 4, .ref t0] (S, I, L, R)) else (if (4 : Int32) ≤ ((I t0 16) - (I t0 15)) then hs_R scr (d + 1) 209 260 [some (.ref t0), some (.int x1)] [] (S, I, L, R) else ((hs_C scr d 210 [.ref t0, .int (I t0 16)] (S, I, L, R)).bind fun o => hs_R scr (d + 1) 209 253 [some (.ref t0), some (.int x1)] (o.1.toList ++ [.int ((10 : Int32) * (I t0 17)), .ref t0]) o.2))) := Eq.trans (r_zeq d209_221 rfl) (q_ite (Eq.trans (r_al_n d209_273 rfl) (Eq.trans (r_al_n d209_274 rfl) (Eq.trans (r_getI d209_275 f209_106 o_t0.2.1) (Eq.trans (r_al_n d209_278 rfl) (Eq.trans (r_getI d209_279 f209_109 o_t0.2.1) (Eq.trans (r_isub d209_282) (Eq.trans (r_ic d209_283 kI_4) (Eq.trans (r_cle d209_284 rfl) (q_ite (Eq.trans (r_ic d209_291 kI_2) (rfl)) (Eq.trans (r_ic d209_287 kI_4) (Eq.trans (r_goto d209_288 rfl) (rfl)))))))))))) (Eq.trans (r_al_n d209_224 rfl) (Eq.trans (r_getI d209_225 f209_106 o_t0.2.1) (Eq.trans (r_al_n d209_228 rfl) (Eq.trans (r_getI d209_229 f209_109 o_t0.2.1) (Eq.trans (r_isub d209_232) (Eq.trans (r_ic d209_233 kI_4) (Eq.trans (r_cge d209_234 rfl) (q_ite (rfl) (Eq.trans (r_al_n d209_237 rfl) (Eq.trans (r_bp d209_238 kB_10) (Eq.trans (r_al_n d209_240 rfl) (Eq.trans (r_getI d209_241 f209_134 o_t0.2.1) (Eq.trans (r_imul d209_244) (Eq.trans (r_al_n d209_245 rfl) (Eq.trans (r_al_n d209_246 rfl) (Eq.trans (r_getI d209_247 f209_106 o_t0.2.1) (r_cvE (as := [.int (I t0 16)]) (r := [.int ((10 : Int32) * (I t0 17)), .ref t0]) d209_250 c209_112 ow210 o_t0.2.1 np210.symm rfl (hs_fitE mL210 (Nat.le_of_ble_eq_true rfl))))))))))))))))))))
theorem b209_253 {t0 u0 : Nat} {x1 s1 s2 : Int32} (o_u0 : ok11 S R u0) : hs_R scr d 209 253 [some (.ref t0), some (.int x1)] [.int s2, .int s1, .ref u0] (S, I, L, R) = hs_R scr d 209 260 [some (.ref t0), some (.int x1)] [] (S, (hs_u I u0 17 ((s1 + s2) - 48)), L, R) := Eq.trans (r_iadd d209_253) (Eq.trans (r_bp d209_254 kB_48) (Eq.trans (r_isub d209_256) (Eq.trans (r_putI d209_257 f209_134 o_u0.2.1) (rfl))))
theorem b209_260 {t0 : Nat} {x1 : Int32} (o_t0 : ok11 S R t0) : hs_R scr d 209 260 [some (.ref t0), some (.int x1)] [] (S, I, L, R) = hs_R scr d 209 210 [some (.ref t0), some (.int x1)] [] (S, (hs_u I t0 16 ((I t0 16) + 1)), L, R) := Eq.trans (r_al_n d209_260 rfl) (Eq.trans (r_dup d209_261 rfl) (Eq.trans (r_getI d209_262 f209_106 o_t0.2.1) (Eq.trans (r_ic d209_265 kI_1) (Eq.trans (r_iadd d209_266) (Eq.trans (r_putI d209_267 f209_106 o_t0.2.1) (Eq.trans (r_goto d209_270 rfl) (rfl)))))))
theorem b209_292 {t0 u0 : Nat} {x1 s1 : Int32} (o_u0 : ok11 S R u0) : hs_R scr d 209 292 [some (.ref t0), some (.int x1)] [.int s1, .ref u0] (S, I, L, R) = hs_R scr d 209 330 [some (.ref t0), some (.int x1)] [] (S, (hs_u I u0 14 s1), L, R) := Eq.trans (r_putI d209_292 f209_115 o_u0.2.1) (Eq.trans (r_goto d209_295 rfl) (rfl))
theorem b209_319 {t0 u0 : Nat} {x1 s1 : Int32}  : hs_R scr d 209 319 [some (.ref t0), some (.int x1)] [.int s1, .ref u0] (S, I, L, R) = (if s1 = 0 then hs_R scr d 209 327 [some (.ref t0), some (.int x1)] [.int 4, .ref u0] (S, I, L, R) else hs_R scr d 209 327 [some (.ref t0), some (.int x1)] [.int 3, .ref u0] (S, I, L, R)) := Eq.trans (r_zeq d209_319 rfl) (q_ite (Eq.trans (r_ic d209_326 kI_4) (rfl)) (Eq.trans (r_ic d209_322 kI_3) (Eq.trans (r_goto d209_323 rfl) (rfl))))
theorem b209_327 {t0 u0 : Nat} {x1 s1 : Int32} (o_u0 : ok11 S R u0) : hs_R scr d 209 327 [some (.ref t0), some (.int x1)] [.int s1, .ref u0] (S, I, L, R) = hs_R scr d 209 330 [some (.ref t0), some (.int x1)] [] (S, (hs_u I u0 14 s1), L, R) := Eq.trans (r_putI d209_327 f209_115 o_u0.2.1) (rfl)
theorem b209_330 {t0 : Nat} {x1 : Int32}  : hs_R scr d 209 330 [some (.ref t0), some (.int x1)] [] (S, I, L, R) = some (none, (S, I, L, R)) := r_rv d209_330 rt209
theorem e210 {t0 : Nat} {x1 : Int32} : hs_C scr d 210 [.ref t0, .int x1] h = hs_R scr d 210 0 [some (.ref t0), some (.int x1)] [] h := by rw [hs_C, mL210]; rfl
theorem b210_0 {t0 : Nat} {x1 : Int32} (o_t0 : ok11 S R t0) : hs_R scr d 210 0 [some (.ref t0), some (.int x1)] [] (S, I, L, R) = (if (I t0 9) ≤ x1 then hs_R scr d 210 22 [some (.ref t0), some (.int x1)] [.int 0] (S, I, L, R) else (if hs_ib x1 900 = true then hs_R scr d 210 22 [some (.ref t0), some (.int x1)] [.int ((I (t0 + 4) (Int32.toNatClampNeg x1)) &&& 255)] (S, I, L, R) else none)) := Eq.trans (r_il_n d210_0 rfl) (Eq.trans (r_al_n d210_1 rfl) (Eq.trans (r_getI d210_2 f210_103 o_t0.2.1) (Eq.trans (r_cge d210_5 rfl) (q_ite (Eq.trans (r_ic d210_21 kI_0) (rfl)) (Eq.trans (r_al_n d210_8 rfl) (Eq.trans (r_getRe d210_9 f210_24 o_t0.2.1 (o_t0.2.2.2.2.2.2.2.2.1) (Nat.le_trans o_t0.1 (Nat.le_add_right _ _))) (Eq.trans (r_il_n d210_12 rfl) (Eq.trans (r_bald d210_13 (o_t0.2.2.2.2.2.2.2.2.2.1)) (q_ite (Eq.trans (r_sp d210_14 kS_255) (Eq.trans (r_iand d210_17) (Eq.trans (r_goto d210_18 rfl) (rfl)))) rfl)))))))))
theorem b210_22 {t0 : Nat} {x1 s0 : Int32}  : hs_R scr d 210 22 [some (.ref t0), some (.int x1)] [.int s0] (S, I, L, R) = some (some (.int s0), (S, I, L, R)) := r_ri d210_22 rt210
theorem e211 {x0 : Int32} : hs_C scr d 211 [.int x0] h = hs_R scr d 211 0 [some (.int x0)] [] h := by rw [hs_C, mL211]; rfl
theorem b211_0 {x0 : Int32}  : hs_R scr d 211 0 [some (.int x0)] [] (S, I, L, R) = (if x0 < 97 then hs_R scr d 211 16 [some (.int x0)] [] (S, I, L, R) else (if (122 : Int32) < x0 then hs_R scr d 211 16 [some (.int x0)] [] (S, I, L, R) else hs_R scr d 211 17 [some (.int x0)] [.int 1] (S, I, L, R))) := Eq.trans (r_il_n d211_0 rfl) (Eq.trans (r_bp d211_1 kB_97) (Eq.trans (r_clt d211_3 rfl) (q_ite (rfl) (Eq.trans (r_il_n d211_6 rfl) (Eq.trans (r_bp d211_7 kB_122) (Eq.trans (r_cgt d211_9 rfl) (q_ite (rfl) (Eq.trans (r_ic d211_12 kI_1) (Eq.trans (r_goto d211_13 rfl) (rfl))))))))))
theorem b211_16 {x0 : Int32}  : hs_R scr d 211 16 [some (.int x0)] [] (S, I, L, R) = hs_R scr d 211 17 [some (.int x0)] [.int 0] (S, I, L, R) := Eq.trans (r_ic d211_16 kI_0) (rfl)
theorem b211_17 {x0 s0 : Int32}  : hs_R scr d 211 17 [some (.int x0)] [.int s0] (S, I, L, R) = (if s0 = 0 ∨ s0 = 1 then some (some (.int s0), (S, I, L, R)) else none) := r_rz d211_17 rt211
theorem e212 {x0 : Int32} : hs_C scr d 212 [.int x0] h = hs_R scr d 212 0 [some (.int x0)] [] h := by rw [hs_C, mL212]; rfl
theorem b212_0 {x0 : Int32}  : hs_R scr d 212 0 [some (.int x0)] [] (S, I, L, R) = (if x0 < 48 then hs_R scr d 212 16 [some (.int x0)] [] (S, I, L, R) else (if (57 : Int32) < x0 then hs_R scr d 212 16 [some (.int x0)] [] (S, I, L, R) else hs_R scr d 212 17 [some (.int x0)] [.int 1] (S, I, L, R))) := Eq.trans (r_il_n d212_0 rfl) (Eq.trans (r_bp d212_1 kB_48) (Eq.trans (r_clt d212_3 rfl) (q_ite (rfl) (Eq.trans (r_il_n d212_6 rfl) (Eq.trans (r_bp d212_7 kB_57) (Eq.trans (r_cgt d212_9 rfl) (q_ite (rfl) (Eq.trans (r_ic d212_12 kI_1) (Eq.trans (r_goto d212_13 rfl) (rfl))))))))))
theorem b212_16 {x0 : Int32}  : hs_R scr d 212 16 [some (.int x0)] [] (S, I, L, R) = hs_R scr d 212 17 [some (.int x0)] [.int 0] (S, I, L, R) := Eq.trans (r_ic d212_16 kI_0) (rfl)
theorem b212_17 {x0 s0 : Int32}  : hs_R scr d 212 17 [some (.int x0)] [.int s0] (S, I, L, R) = (if s0 = 0 ∨ s0 = 1 then some (some (.int s0), (S, I, L, R)) else none) := r_rz d212_17 rt212
theorem e213 {t0 : Nat} {x1 : Int32} : hs_C scr d 213 [.ref t0, .int x1] h = hs_R scr d 213 0 [some (.ref t0), some (.int x1)] [] h := by rw [hs_C, mL213]; rfl
theorem b213_0 {t0 : Nat} {x1 : Int32}  : hs_R scr d 213 0 [some (.ref t0), some (.int x1)] [] (S, I, L, R) = (if x1 = 59 then hs_R scr d 213 24 [some (.ref t0), some (.int x1)] [] (S, I, L, R) else (if x1 = 60 then hs_R scr d 213 24 [some (.ref t0), some (.int x1)] [] (S, I, L, R) else (if x1 = 62 then hs_R scr d 213 24 [some (.ref t0), some (.int x1)] [] (S, I, L, R) else (if x1 = 61 then hs_R scr d 213 24 [some (.ref t0), some (.int x1)] [] (S, I, L, R) else hs_R scr d 213 29 [some (.ref t0), some (.int x1)] [.int 0] (S, I, L, R))))) := Eq.trans (r_il_n d213_0 rfl) (Eq.trans (r_bp d213_1 kB_59) (Eq.trans (r_ceq d213_3 rfl) (q_ite (rfl) (Eq.trans (r_il_n d213_6 rfl) (Eq.trans (r_bp d213_7 kB_60) (Eq.trans (r_ceq d213_9 rfl) (q_ite (rfl) (Eq.trans (r_il_n d213_12 rfl) (Eq.trans (r_bp d213_13 kB_62) (Eq.trans (r_ceq d213_15 rfl) (q_ite (rfl) (Eq.trans (r_il_n d213_18 rfl) (Eq.trans (r_bp d213_19 kB_61) (Eq.trans (r_cne d213_21 rfl) (q_ite (rfl) (Eq.trans (r_ic d213_28 kI_0) (rfl)))))))))))))))))
theorem b213_24 {t0 : Nat} {x1 : Int32}  : hs_R scr d 213 24 [some (.ref t0), some (.int x1)] [] (S, I, L, R) = hs_R scr d 213 29 [some (.ref t0), some (.int x1)] [.int 1] (S, I, L, R) := Eq.trans (r_ic d213_24 kI_1) (Eq.trans (r_goto d213_25 rfl) (rfl))
theorem b213_29 {t0 : Nat} {x1 s0 : Int32}  : hs_R scr d 213 29 [some (.ref t0), some (.int x1)] [.int s0] (S, I, L, R) = (if s0 = 0 ∨ s0 = 1 then some (some (.int s0), (S, I, L, R)) else none) := r_rz d213_29 rt213
theorem e214 {t0 : Nat} : hs_C scr d 214 [.ref t0] h = hs_R scr d 214 0 [some (.ref t0)] [] h := by rw [hs_C, mL214]; rfl
theorem b214_0 {t0 : Nat} (o_t0 : ok11 S R t0) : hs_R scr (d + 1) 214 0 [some (.ref t0)] [] (S, I, L, R) = ((hs_C scr d 215 [.ref t0] (S, I, L, R)).bind fun o => hs_R scr (d + 1) 214 4 [some (.ref t0)] (o.1.toList ++ []) o.2) := Eq.trans (r_al_n d214_0 rfl) (r_cvE (as := []) (r := []) d214_1 c214_156 ow215 o_t0.2.1 np215.symm rfl (hs_fitE mL215 (Nat.le_of_ble_eq_true rfl)))
theorem b214_4 {t0 : Nat} {s0 : Int32} (o_t0 : ok11 S R t0) : hs_R scr (d + 1) 214 4 [some (.ref t0)] [.int s0] (S, I, L, R) = (if s0 = 0 then ((hs_C scr d 224 [.ref t0] (S, I, L, R)).bind fun o => hs_R scr (d + 1) 214 23 [some (.ref t0)] (o.1.toList ++ []) o.2) else ((hs_C scr d 218 [.ref t0, .int 6, .int 0, .int 16] (S, I, L, R)).bind fun o => hs_R scr (d + 1) 214 16 [some (.ref t0)] (o.1.toList ++ []) o.2)) := Eq.trans (r_zeq d214_4 rfl) (q_ite (Eq.trans (r_al_n d214_19 rfl) (r_cvE (as := []) (r := []) d214_20 c214_159 ow224 o_t0.2.1 np224.symm rfl (hs_fitE mL224 (Nat.le_of_ble_eq_true rfl)))) (Eq.trans (r_al_n d214_7 rfl) (Eq.trans (r_bp d214_8 kB_6) (Eq.trans (r_ic d214_10 kI_0) (Eq.trans (r_bp d214_11 kB_16) (r_cvE (as := [.int 6, .int 0, .int 16]) (r := []) d214_13 c214_268 ow218 o_t0.2.1 np218.symm rfl (hs_fitE mL218 (Nat.le_of_ble_eq_true rfl))))))))
theorem b214_16 {t0 : Nat}  : hs_R scr d 214 16 [some (.ref t0)] [] (S, I, L, R) = hs_R scr d 214 126 [some (.ref t0)] [] (S, I, L, R) := Eq.trans (r_goto d214_16 rfl) (rfl)
theorem b214_23 {t0 : Nat} {s0 : Int32} (o_t0 : ok11 S R t0) : hs_R scr (d + 1) 214 23 [some (.ref t0)] [.int s0] (S, I, L, R) = (if s0 = 0 then ((hs_C scr d 225 [.ref t0] (S, I, L, R)).bind fun o => hs_R scr (d + 1) 214 42 [some (.ref t0)] (o.1.toList ++ []) o.2) else ((hs_C scr d 218 [.ref t0, .int 7, .int 1, .int 99] (S, I, L, R)).bind fun o => hs_R scr (d + 1) 214 35 [some (.ref t0)] (o.1.toList ++ []) o.2)) := Eq.trans (r_zeq d214_23 rfl) (q_ite (Eq.trans (r_al_n d214_38 rfl) (r_cvE (as := []) (r := []) d214_39 c214_162 ow225 o_t0.2.1 np225.symm rfl (hs_fitE mL225 (Nat.le_of_ble_eq_true rfl)))) (Eq.trans (r_al_n d214_26 rfl) (Eq.trans (r_bp d214_27 kB_7) (Eq.trans (r_ic d214_29 kI_1) (Eq.trans (r_bp d214_30 kB_99) (r_cvE (as := [.int 7, .int 1, .int 99]) (r := []) d214_32 c214_268 ow218 o_t0.2.1 np218.symm rfl (hs_fitE mL218 (Nat.le_of_ble_eq_true rfl))))))))
theorem b214_35 {t0 : Nat}  : hs_R scr d 214 35 [some (.ref t0)] [] (S, I, L, R) = hs_R scr d 214 126 [some (.ref t0)] [] (S, I, L, R) := Eq.trans (r_goto d214_35 rfl) (rfl)
theorem b214_42 {t0 : Nat} {s0 : Int32} (o_t0 : ok11 S R t0) : hs_R scr (d + 1) 214 42 [some (.ref t0)] [.int s0] (S, I, L, R) = (if s0 = 0 then ((hs_C scr d 231 [.ref t0] (S, I, L, R)).bind fun o => hs_R scr (d + 1) 214 56 [some (.ref t0)] (o.1.toList ++ []) o.2) else ((hs_C scr d 226 [.ref t0] (S, I, L, R)).bind fun o => hs_R scr (d + 1) 214 49 [some (.ref t0)] (o.1.toList ++ []) o.2)) := Eq.trans (r_zeq d214_42 rfl) (q_ite (Eq.trans (r_al_n d214_52 rfl) (r_cvE (as := []) (r := []) d214_53 c214_168 ow231 o_t0.2.1 np231.symm rfl (hs_fitE mL231 (Nat.le_of_ble_eq_true rfl)))) (Eq.trans (r_al_n d214_45 rfl) (r_cvE (as := []) (r := []) d214_46 c214_272 ow226 o_t0.2.1 np226.symm rfl (hs_fitE mL226 (Nat.le_of_ble_eq_true rfl)))))
theorem b214_49 {t0 : Nat}  : hs_R scr d 214 49 [some (.ref t0)] [] (S, I, L, R) = hs_R scr d 214 126 [some (.ref t0)] [] (S, I, L, R) := Eq.trans (r_goto d214_49 rfl) (rfl)
theorem b214_56 {t0 : Nat} {s0 : Int32} (o_t0 : ok11 S R t0) : hs_R scr (d + 1) 214 56 [some (.ref t0)] [.int s0] (S, I, L, R) = (if s0 = 0 then ((hs_C scr d 234 [.ref t0] (S, I, L, R)).bind fun o => hs_R scr (d + 1) 214 70 [some (.ref t0)] (o.1.toList ++ []) o.2) else ((hs_C scr d 250 [.ref t0] (S, I, L, R)).bind fun o => hs_R scr (d + 1) 214 63 [some (.ref t0)] (o.1.toList ++ []) o.2)) := Eq.trans (r_zeq d214_56 rfl) (q_ite (Eq.trans (r_al_n d214_66 rfl) (r_cvE (as := []) (r := []) d214_67 c214_177 ow234 o_t0.2.1 np234.symm rfl (hs_fitE mL234 (Nat.le_of_ble_eq_true rfl)))) (Eq.trans (r_al_n d214_59 rfl) (r_cvE (as := []) (r := []) d214_60 c214_275 ow250 o_t0.2.1 np250.symm rfl (hs_fitE mL250 (Nat.le_of_ble_eq_true rfl)))))
theorem b214_63 {t0 : Nat}  : hs_R scr d 214 63 [some (.ref t0)] [] (S, I, L, R) = hs_R scr d 214 126 [some (.ref t0)] [] (S, I, L, R) := Eq.trans (r_goto d214_63 rfl) (rfl)
theorem b214_70 {t0 : Nat} {s0 : Int32} (o_t0 : ok11 S R t0) : hs_R scr (d + 1) 214 70 [some (.ref t0)] [.int s0] (S, I, L, R) = (if s0 = 0 then ((hs_C scr d 236 [.ref t0] (S, I, L, R)).bind fun o => hs_R scr (d + 1) 214 84 [some (.ref t0)] (o.1.toList ++ []) o.2) else ((hs_C scr d 251 [.ref t0] (S, I, L, R)).bind fun o => hs_R scr (d + 1) 214 77 [some (.ref t0)] (o.1.toList ++ []) o.2)) := Eq.trans (r_zeq d214_70 rfl) (q_ite (Eq.trans (r_al_n d214_80 rfl) (r_cvE (as := []) (r := []) d214_81 c214_183 ow236 o_t0.2.1 np236.symm rfl (hs_fitE mL236 (Nat.le_of_ble_eq_true rfl)))) (Eq.trans (r_al_n d214_73 rfl) (r_cvE (as := []) (r := []) d214_74 c214_278 ow251 o_t0.2.1 np251.symm rfl (hs_fitE mL251 (Nat.le_of_ble_eq_true rfl)))))
theorem b214_77 {t0 : Nat}  : hs_R scr d 214 77 [some (.ref t0)] [] (S, I, L, R) = hs_R scr d 214 126 [some (.ref t0)] [] (S, I, L, R) := Eq.trans (r_goto d214_77 rfl) (rfl)
theorem b214_84 {t0 : Nat} {s0 : Int32} (o_t0 : ok11 S R t0) : hs_R scr (d + 1) 214 84 [some (.ref t0)] [.int s0] (S, I, L, R) = (if s0 = 0 then ((hs_C scr d 237 [.ref t0] (S, I, L, R)).bind fun o => hs_R scr (d + 1) 214 98 [some (.ref t0)] (o.1.toList ++ []) o.2) else ((hs_C scr d 252 [.ref t0] (S, I, L, R)).bind fun o => hs_R scr (d + 1) 214 91 [some (.ref t0)] (o.1.toList ++ []) o.2)) := Eq.trans (r_zeq d214_84 rfl) (q_ite (Eq.trans (r_al_n d214_94 rfl) (r_cvE (as := []) (r := []) d214_95 c214_186 ow237 o_t0.2.1 np237.symm rfl (hs_fitE mL237 (Nat.le_of_ble_eq_true rfl)))) (Eq.trans (r_al_n d214_87 rfl) (r_cvE (as := []) (r := []) d214_88 c214_281 ow252 o_t0.2.1 np252.symm rfl (hs_fitE mL252 (Nat.le_of_ble_eq_true rfl)))))
theorem b214_91 {t0 : Nat}  : hs_R scr d 214 91 [some (.ref t0)] [] (S, I, L, R) = hs_R scr d 214 126 [some (.ref t0)] [] (S, I, L, R) := Eq.trans (r_goto d214_91 rfl) (rfl)
theorem b214_98 {t0 : Nat} {s0 : Int32} (o_t0 : ok11 S R t0) : hs_R scr (d + 1) 214 98 [some (.ref t0)] [.int s0] (S, I, L, R) = (if s0 = 0 then ((hs_C scr d 238 [.ref t0] (S, I, L, R)).bind fun o => hs_R scr (d + 1) 214 112 [some (.ref t0)] (o.1.toList ++ []) o.2) else ((hs_C scr d 253 [.ref t0] (S, I, L, R)).bind fun o => hs_R scr (d + 1) 214 105 [some (.ref t0)] (o.1.toList ++ []) o.2)) := Eq.trans (r_zeq d214_98 rfl) (q_ite (Eq.trans (r_al_n d214_108 rfl) (r_cvE (as := []) (r := []) d214_109 c214_189 ow238 o_t0.2.1 np238.symm rfl (hs_fitE mL238 (Nat.le_of_ble_eq_true rfl)))) (Eq.trans (r_al_n d214_101 rfl) (r_cvE (as := []) (r := []) d214_102 c214_284 ow253 o_t0.2.1 np253.symm rfl (hs_fitE mL253 (Nat.le_of_ble_eq_true rfl)))))
theorem b214_105 {t0 : Nat}  : hs_R scr d 214 105 [some (.ref t0)] [] (S, I, L, R) = hs_R scr d 214 126 [some (.ref t0)] [] (S, I, L, R) := Eq.trans (r_goto d214_105 rfl) (rfl)
theorem b214_112 {t0 : Nat} {s0 : Int32} (o_t0 : ok11 S R t0) : hs_R scr (d + 1) 214 112 [some (.ref t0)] [.int s0] (S, I, L, R) = (if s0 = 0 then ((hs_C scr d 222 [.ref t0] (S, I, L, R)).bind fun o => hs_R scr (d + 1) 214 126 [some (.ref t0)] (o.1.toList ++ []) o.2) else ((hs_C scr d 254 [.ref t0] (S, I, L, R)).bind fun o => hs_R scr (d + 1) 214 119 [some (.ref t0)] (o.1.toList ++ []) o.2)) := Eq.trans (r_zeq d214_112 rfl) (q_ite (Eq.trans (r_al_n d214_122 rfl) (r_cvE (as := []) (r := []) d214_123 c214_217 ow222 o_t0.2.1 np222.symm rfl (hs_fitE mL222 (Nat.le_of_ble_eq_true rfl)))) (Eq.trans (r_al_n d214_115 rfl) (r_cvE (as := []) (r := []) d214_116 c214_287 ow254 o_t0.2.1 np254.symm rfl (hs_fitE mL254 (Nat.le_of_ble_eq_true rfl)))))
theorem b214_119 {t0 : Nat}  : hs_R scr d 214 119 [some (.ref t0)] [] (S, I, L, R) = hs_R scr d 214 126 [some (.ref t0)] [] (S, I, L, R) := Eq.trans (r_goto d214_119 rfl) (rfl)
theorem b214_126 {t0 : Nat}  : hs_R scr d 214 126 [some (.ref t0)] [] (S, I, L, R) = some (none, (S, I, L, R)) := r_rv d214_126 rt214
theorem e215 {t0 : Nat} : hs_C scr d 215 [.ref t0] h = hs_R scr d 215 0 [some (.ref t0)] [] h := by rw [hs_C, mL215]; rfl
theorem b215_0 {t0 : Nat}  : hs_R scr (d + 1) 215 0 [some (.ref t0)] [] (S, I, L, R) = ((hs_C scr d 216 [.int 111, .int 100, .int 100, .int 115, .int 0, .int 0] (S, I, L, R)).bind fun o => hs_R scr (d + 1) 215 14 [some (.ref t0)] (o.1.toList ++ [.ref t0]) o.2) := Eq.trans (r_al_n d215_0 rfl) (Eq.trans (r_bp d215_1 kB_111) (Eq.trans (r_bp d215_3 kB_100) (Eq.trans (r_bp d215_5 kB_100) (Eq.trans (r_bp d215_7 kB_115) (Eq.trans (r_ic d215_9 kI_0) (Eq.trans (r_ic d215_10 kI_0) (r_cs (as := [.int 111, .int 100, .int 100, .int 115, .int 0, .int 0]) (r := [.ref t0]) d215_11 c215_140 np216.symm rfl (hs_fitE mL216 (Nat.le_of_ble_eq_true rfl)))))))))
theorem b215_14 {t0 u0 : Nat} {v1 : Int64} (o_u0 : ok11 S R u0) : hs_R scr (d + 1) 215 14 [some (.ref t0)] [.long v1, .ref u0] (S, I, L, R) = ((hs_C scr d 217 [.ref u0, .long v1] (S, I, L, R)).bind fun o => hs_R scr (d + 1) 215 17 [some (.ref t0)] (o.1.toList ++ []) o.2) := r_cvE (as := [.long v1]) (r := []) d215_14 c215_144 ow217 o_u0.2.1 np217.symm rfl (hs_fitE mL217 (Nat.le_of_ble_eq_true rfl))
theorem b215_17 {t0 : Nat} {s0 : Int32}  : hs_R scr d 215 17 [some (.ref t0)] [.int s0] (S, I, L, R) = (if s0 = 0 ∨ s0 = 1 then some (some (.int s0), (S, I, L, R)) else none) := r_rz d215_17 rt215
theorem e216 {x0 : Int32} {x1 : Int32} {x2 : Int32} {x3 : Int32} {x4 : Int32} {x5 : Int32} : hs_C scr d 216 [.int x0, .int x1, .int x2, .int x3, .int x4, .int x5] h = hs_R scr d 216 0 [some (.int x0), some (.int x1), some (.int x2), some (.int x3), some (.int x4), some (.int x5), none, none] [] h := by rw [hs_C, mL216]; rfl
theorem b216_0 {x0 x1 x2 x3 x4 x5 : Int32}  : hs_R scr d 216 0 [some (.int x0), some (.int x1), some (.int x2), some (.int x3), some (.int x4), some (.int x5), none, none] [] (S, I, L, R) = (if x2 ≤ 0 then hs_R scr d 216 41 [some (.int x0), some (.int x1), some (.int x2), some (.int x3), some (.int x4), some (.int x5), some (.long (((((Int32.toInt64 x0) - 96) * 32) + (Int32.toInt64 x1)) - 96)), none] [.long (((((Int32.toInt64 x0) - 96) * 32) + (Int32.toInt64 x1)) - 96)] (S, I, L, R) else hs_R scr d 216 41 [some (.int x0), some (.int x1), some (.int x2), some (.int x3), some (.int x4), some (.int x5), some (.long (((((Int32.toInt64 x0) - 96) * 32) + (Int32.toInt64 x1)) - 96)), none] [.long ((((((((Int32.toInt64 x0) - 96) * 32) + (Int32.toInt64 x1)) - 96) * 32) + (Int32.toInt64 x2)) - 96)] (S, I, L, R)) := Eq.trans (r_il_n d216_0 rfl) (Eq.trans (r_i2l d216_1) (Eq.trans (r_ldc2 d216_2 cl216_126) (Eq.trans (r_lsub d216_5) (Eq.trans (r_ldc2 d216_6 cl216_124) (Eq.trans (r_lmul d216_9) (Eq.trans (r_il_n d216_10 rfl) (Eq.trans (r_i2l d216_11) (Eq.trans (r_ladd d216_12) (Eq.trans (r_ldc2 d216_13 cl216_126) (Eq.trans (r_lsub d216_16) (Eq.trans (r_ls (loc' := [some (.int x0), some (.int x1), some (.int x2), some (.int x3), some (.int x4), some (.int x5), some (.long (((((Int32.toInt64 x0) - 96) * 32) + (Int32.toInt64 x1)) - 96)), none]) d216_17 rfl) (Eq.trans (r_il_n d216_19 rfl) (Eq.trans (r_zle d216_20 rfl) (q_ite (Eq.trans (r_ll d216_39 rfl) (rfl)) (Eq.trans (r_ll d216_23 rfl) (Eq.trans (r_ldc2 d216_25 cl216_124) (Eq.trans (r_lmul d216_28) (Eq.trans (r_il_n d216_29 rfl) (Eq.trans (r_i2l d216_30) (Eq.trans (r_ladd d216_31) (Eq.trans (r_ldc2 d216_32 cl216_126) (Eq.trans (r_lsub d216_35) (Eq.trans (r_goto d216_36 rfl) (rfl))))))))))))))))))))))))
theorem b216_41 {x0 x1 x2 x3 x4 x5 : Int32} {y6 v0 : Int64}  : hs_R scr d 216 41 [some (.int x0), some (.int x1), some (.int x2), some (.int x3), some (.int x4), some (.int x5), some (.long y6), none] [.long v0] (S, I, L, R) = (if x3 ≤ 0 then hs_R scr d 216 65 [some (.int x0), some (.int x1), some (.int x2), some (.int x3), some (.int x4), some (.int x5), some (.long v0), none] [.long v0] (S, I, L, R) else hs_R scr d 216 65 [some (.int x0), some (.int x1), some (.int x2), some (.int x3), some (.int x4), some (.int x5), some (.long v0), none] [.long (((v0 * 32) + (Int32.toInt64 x3)) - 96)] (S, I, L, R)) := Eq.trans (r_ls (loc' := [some (.int x0), some (.int x1), some (.int x2), some (.int x3), some (.int x4), some (.int x5), some (.long v0), none]) d216_41 rfl) (Eq.trans (r_il_n d216_43 rfl) (Eq.trans (r_zle d216_44 rfl) (q_ite (Eq.trans (r_ll d216_63 rfl) (rfl)) (Eq.trans (r_ll d216_47 rfl) (Eq.trans (r_ldc2 d216_49 cl216_124) (Eq.trans (r_lmul d216_52) (Eq.trans (r_il_n d216_53 rfl) (Eq.trans (r_i2l d216_54) (Eq.trans (r_ladd d216_55) (Eq.trans (r_ldc2 d216_56 cl216_126) (Eq.trans (r_lsub d216_59) (Eq.trans (r_goto d216_60 rfl) (rfl)))))))))))))
theorem b216_65 {x0 x1 x2 x3 x4 x5 : Int32} {y6 v0 : Int64}  : hs_R scr d 216 65 [some (.int x0), some (.int x1), some (.int x2), some (.int x3), some (.int x4), some (.int x5), some (.long y6), none] [.long v0] (S, I, L, R) = (if x4 ≤ 0 then hs_R scr d 216 91 [some (.int x0), some (.int x1), some (.int x2), some (.int x3), some (.int x4), some (.int x5), some (.long v0), none] [.long v0] (S, I, L, R) else hs_R scr d 216 91 [some (.int x0), some (.int x1), some (.int x2), some (.int x3), some (.int x4), some (.int x5), some (.long v0), none] [.long (((v0 * 32) + (Int32.toInt64 x4)) - 96)] (S, I, L, R)) := Eq.trans (r_ls (loc' := [some (.int x0), some (.int x1), some (.int x2), some (.int x3), some (.int x4), some (.int x5), some (.long v0), none]) d216_65 rfl) (Eq.trans (r_il d216_67 rfl) (Eq.trans (r_zle d216_69 rfl) (q_ite (Eq.trans (r_ll d216_89 rfl) (rfl)) (Eq.trans (r_ll d216_72 rfl) (Eq.trans (r_ldc2 d216_74 cl216_124) (Eq.trans (r_lmul d216_77) (Eq.trans (r_il d216_78 rfl) (Eq.trans (r_i2l d216_80) (Eq.trans (r_ladd d216_81) (Eq.trans (r_ldc2 d216_82 cl216_126) (Eq.trans (r_lsub d216_85) (Eq.trans (r_goto d216_86 rfl) (rfl)))))))))))))
theorem b216_91 {x0 x1 x2 x3 x4 x5 : Int32} {y6 v0 : Int64}  : hs_R scr d 216 91 [some (.int x0), some (.int x1), some (.int x2), some (.int x3), some (.int x4), some (.int x5), some (.long y6), none] [.long v0] (S, I, L, R) = (if x5 ≤ 0 then hs_R scr d 216 117 [some (.int x0), some (.int x1), some (.int x2), some (.int x3), some (.int x4), some (.int x5), some (.long v0), none] [.long v0] (S, I, L, R) else hs_R scr d 216 117 [some (.int x0), some (.int x1), some (.int x2), some (.int x3), some (.int x4), some (.int x5), some (.long v0), none] [.long (((v0 * 32) + (Int32.toInt64 x5)) - 96)] (S, I, L, R)) := Eq.trans (r_ls (loc' := [some (.int x0), some (.int x1), some (.int x2), some (.int x3), some (.int x4), some (.int x5), some (.long v0), none]) d216_91 rfl) (Eq.trans (r_il d216_93 rfl) (Eq.trans (r_zle d216_95 rfl) (q_ite (Eq.trans (r_ll d216_115 rfl) (rfl)) (Eq.trans (r_ll d216_98 rfl) (Eq.trans (r_ldc2 d216_100 cl216_124) (Eq.trans (r_lmul d216_103) (Eq.trans (r_il d216_104 rfl) (Eq.trans (r_i2l d216_106) (Eq.trans (r_ladd d216_107) (Eq.trans (r_ldc2 d216_108 cl216_126) (Eq.trans (r_lsub d216_111) (Eq.trans (r_goto d216_112 rfl) (rfl)))))))))))))
theorem b216_117 {x0 x1 x2 x3 x4 x5 : Int32} {y6 v0 : Int64}  : hs_R scr d 216 117 [some (.int x0), some (.int x1), some (.int x2), some (.int x3), some (.int x4), some (.int x5), some (.long y6), none] [.long v0] (S, I, L, R) = some (some (.long v0), (S, I, L, R)) := r_rl d216_117 rt216
theorem e217 {t0 : Nat} {y1 : Int64} : hs_C scr d 217 [.ref t0, .long y1] h = hs_R scr d 217 0 [some (.ref t0), some (.long y1), none] [] h := by rw [hs_C, mL217]; rfl
theorem b217_0 {t0 : Nat} {y1 : Int64} (o_t0 : ok11 S R t0) : hs_R scr d 217 0 [some (.ref t0), some (.long y1), none] [] (S, I, L, R) = (if (I t0 14) = 1 then (if (lg_cmp (L t0 19) y1) = 0 then hs_R scr d 217 22 [some (.ref t0), some (.long y1), none] [.int 1] (S, I, L, R) else hs_R scr d 217 21 [some (.ref t0), some (.long y1), none] [] (S, I, L, R)) else hs_R scr d 217 21 [some (.ref t0), some (.long y1), none] [] (S, I, L, R)) := Eq.trans (r_al_n d217_0 rfl) (Eq.trans (r_getI d217_1 f217_115 o_t0.2.1) (Eq.trans (r_ic d217_4 kI_1) (Eq.trans (r_cne d217_5 rfl) (q_ite (Eq.trans (r_al_n d217_8 rfl) (Eq.trans (r_getL d217_9 f217_121 o_t0.2.1) (Eq.trans (r_ll_n d217_12 rfl) (Eq.trans (r_lcmp d217_13) (Eq.trans (r_zne d217_14 rfl) (q_ite (Eq.trans (r_ic d217_17 kI_1) (Eq.trans (r_goto d217_18 rfl) (rfl))) (rfl))))))) (rfl)))))
theorem b217_21 {t0 : Nat} {y1 : Int64}  : hs_R scr d 217 21 [some (.ref t0), some (.long y1), none] [] (S, I, L, R) = hs_R scr d 217 22 [some (.ref t0), some (.long y1), none] [.int 0] (S, I, L, R) := Eq.trans (r_ic d217_21 kI_0) (rfl)
theorem b217_22 {t0 : Nat} {y1 : Int64} {s0 : Int32}  : hs_R scr d 217 22 [some (.ref t0), some (.long y1), none] [.int s0] (S, I, L, R) = (if s0 = 0 ∨ s0 = 1 then some (some (.int s0), (S, I, L, R)) else none) := r_rz d217_22 rt217
theorem e218 {t0 : Nat} {x1 : Int32} {x2 : Int32} {x3 : Int32} : hs_C scr d 218 [.ref t0, .int x1, .int x2, .int x3] h = hs_R scr d 218 0 [some (.ref t0), some (.int x1), some (.int x2), some (.int x3)] [] h := by rw [hs_C, mL218]; rfl
theorem b218_0 {t0 : Nat} {x1 x2 x3 : Int32} (o_t0 : ok11 S R t0) : hs_R scr (d + 1) 218 0 [some (.ref t0), some (.int x1), some (.int x2), some (.int x3)] [] (S, I, L, R) = ((hs_C scr d 219 [.int (I t0 25), .int x1] (S, I, L, R)).bind fun o => hs_R scr (d + 1) 218 8 [some (.ref t0), some (.int x1), some (.int x2), some (.int x3)] (o.1.toList ++ []) o.2) := Eq.trans (r_al_n d218_0 rfl) (Eq.trans (r_getI d218_1 f218_251 o_t0.2.1) (Eq.trans (r_il_n d218_4 rfl) (r_cs (as := [.int (I t0 25), .int x1]) (r := []) d218_5 c218_99 np219.symm rfl (hs_fitE mL219 (Nat.le_of_ble_eq_true rfl)))))
theorem b218_8 {t0 : Nat} {x1 x2 x3 s0 : Int32} (o_t0 : ok11 S R t0) : hs_R scr (d + 1) 218 8 [some (.ref t0), some (.int x1), some (.int x2), some (.int x3)] [.int s0] (S, I, L, R) = (if s0 = 0 then hs_R scr (d + 1) 218 20 [some (.ref t0), some (.int x1), some (.int x2), some (.int x3)] [] (S, I, L, R) else ((hs_C scr d 220 [.ref t0, .int 5, .int (I t0 15)] (S, I, L, R)).bind fun o => hs_R scr (d + 1) 218 20 [some (.ref t0), some (.int x1), some (.int x2), some (.int x3)] (o.1.toList ++ []) o.2)) := Eq.trans (r_zeq d218_8 rfl) (q_ite (rfl) (Eq.trans (r_al_n d218_11 rfl) (Eq.trans (r_ic d218_12 kI_5) (Eq.trans (r_al_n d218_13 rfl) (Eq.trans (r_getI d218_14 f218_109 o_t0.2.1) (r_cvE (as := [.int 5, .int (I t0 15)]) (r := []) d218_17 c218_210 ow220 o_t0.2.1 np220.symm rfl (hs_fitE mL220 (Nat.le_of_ble_eq_true rfl))))))))
theorem b218_20 {t0 : Nat} {x1 x2 x3 : Int32} (o_t0 : ok11 S R t0) : hs_R scr (d + 1) 218 20 [some (.ref t0), some (.int x1), some (.int x2), some (.int x3)] [] (S, I, L, R) = (if (I t0 12) ≤ 0 then ((hs_C scr d 209 [.ref t0] (S, (hs_u I t0 25 ((I t0 25) ||| ((1 : Int32) <<< (x1 &&& 31)))), L, R)).bind fun o => hs_R scr (d + 1) 218 44 [some (.ref t0), some (.int x1), some (.int x2), some (.int x3)] (o.1.toList ++ []) o.2) else some (none, (S, I, L, R))) := Eq.trans (r_al_n d218_20 rfl) (Eq.trans (r_getI d218_21 f218_204 o_t0.2.1) (Eq.trans (r_zle d218_24 rfl) (q_ite (Eq.trans (r_al_n d218_28 rfl) (Eq.trans (r_dup d218_29 rfl) (Eq.trans (r_getI d218_30 f218_251 o_t0.2.1) (Eq.trans (r_ic d218_33 kI_1) (Eq.trans (r_il_n d218_34 rfl) (Eq.trans (r_ishl d218_35) (Eq.trans (r_ior d218_36) (Eq.trans (r_putI d218_37 f218_251 o_t0.2.1) (Eq.trans (r_al_n d218_40 rfl) (r_cvE (as := []) (r := []) d218_41 c218_214 ow209 o_t0.2.1 np209.symm rfl (hs_fitE mL209 (Nat.le_of_ble_eq_true rfl)))))))))))) (r_rv d218_27 rt218))))
theorem b218_44 {t0 : Nat} {x1 x2 x3 : Int32} (o_t0 : ok11 S R t0) : hs_R scr (d + 1) 218 44 [some (.ref t0), some (.int x1), some (.int x2), some (.int x3)] [] (S, I, L, R) = ((hs_C scr d 221 [.ref t0, .int x2, .int x3] (S, I, L, R)).bind fun o => hs_R scr (d + 1) 218 59 [some (.ref t0), some (.int x1), some (.int x2), some (.int x3)] (o.1.toList ++ [.int ((1596 : Int32) + x1), .ref (t0 + 5)]) o.2) := Eq.trans (r_al_n d218_44 rfl) (Eq.trans (r_getRe d218_45 f218_35 o_t0.2.1 (o_t0.2.2.2.2.2.2.2.2.2.2.1) (Nat.le_trans o_t0.1 (Nat.le_add_right _ _))) (Eq.trans (r_sp d218_48 kS_1596) (Eq.trans (r_il_n d218_51 rfl) (Eq.trans (r_iadd d218_52) (Eq.trans (r_al_n d218_53 rfl) (Eq.trans (r_il_n d218_54 rfl) (Eq.trans (r_il_n d218_55 rfl) (r_cvE (as := [.int x2, .int x3]) (r := [.int ((1596 : Int32) + x1), .ref (t0 + 5)]) d218_56 c218_224 ow221 o_t0.2.1 np221.symm rfl (hs_fitE mL221 (Nat.le_of_ble_eq_true rfl))))))))))
theorem b218_59 {t0 u0 n_u0 : Nat} {x1 x2 x3 s1 s2 : Int32} (a_u0 : S[u0]? = some (.inr (.int, n_u0))) : hs_R scr d 218 59 [some (.ref t0), some (.int x1), some (.int x2), some (.int x3)] [.int s2, .int s1, .ref u0] (S, I, L, R) = (if hs_ib s1 n_u0 = true then some (none, (S, (hs_u I u0 (Int32.toNatClampNeg s1) s2), L, R)) else none) := Eq.trans (r_iast d218_59 a_u0) (q_ite (r_rv d218_60 rt218) rfl)
theorem e219 {x0 : Int32} {x1 : Int32} : hs_C scr d 219 [.int x0, .int x1] h = hs_R scr d 219 0 [some (.int x0), some (.int x1)] [] h := by rw [hs_C, mL219]; rfl
theorem b219_0 {x0 x1 : Int32}  : hs_R scr d 219 0 [some (.int x0), some (.int x1)] [] (S, I, L, R) = (if ((x0 >>> (x1 &&& 31)) &&& 1) = 1 then hs_R scr d 219 14 [some (.int x0), some (.int x1)] [.int 1] (S, I, L, R) else hs_R scr d 219 14 [some (.int x0), some (.int x1)] [.int 0] (S, I, L, R)) := Eq.trans (r_il_n d219_0 rfl) (Eq.trans (r_il_n d219_1 rfl) (Eq.trans (r_ishr d219_2) (Eq.trans (r_ic d219_3 kI_1) (Eq.trans (r_iand d219_4) (Eq.trans (r_ic d219_5 kI_1) (Eq.trans (r_cne d219_6 rfl) (q_ite (Eq.trans (r_ic d219_9 kI_1) (Eq.trans (r_goto d219_10 rfl) (rfl))) (Eq.trans (r_ic d219_13 kI_0) (rfl)))))))))
theorem b219_14 {x0 x1 s0 : Int32}  : hs_R scr d 219 14 [some (.int x0), some (.int x1)] [.int s0] (S, I, L, R) = (if s0 = 0 ∨ s0 = 1 then some (some (.int s0), (S, I, L, R)) else none) := r_rz d219_14 rt219
theorem e220 {t0 : Nat} {x1 : Int32} {x2 : Int32} : hs_C scr d 220 [.ref t0, .int x1, .int x2] h = hs_R scr d 220 0 [some (.ref t0), some (.int x1), some (.int x2)] [] h := by rw [hs_C, mL220]; rfl
theorem b220_0 {t0 : Nat} {x1 x2 : Int32} (o_t0 : ok11 S R t0) : hs_R scr d 220 0 [some (.ref t0), some (.int x1), some (.int x2)] [] (S, I, L, R) = (if (I t0 12) ≤ 0 then some (none, (S, (hs_u (hs_u I t0 12 x1) t0 13 x2), L, R)) else some (none, (S, I, L, R))) := Eq.trans (r_al_n d220_0 rfl) (Eq.trans (r_getI d220_1 f220_204 o_t0.2.1) (Eq.trans (r_zle d220_4 rfl) (q_ite (Eq.trans (r_al_n d220_8 rfl) (Eq.trans (r_il_n d220_9 rfl) (Eq.trans (r_putI d220_10 f220_204 o_t0.2.1) (Eq.trans (r_al_n d220_13 rfl) (Eq.trans (r_il_n d220_14 rfl) (Eq.trans (r_putI d220_15 f220_207 o_t0.2.1) (r_rv d220_18 rt220))))))) (r_rv d220_7 rt220))))
theorem e221 {t0 : Nat} {x1 : Int32} {x2 : Int32} : hs_C scr d 221 [.ref t0, .int x1, .int x2] h = hs_R scr d 221 0 [some (.ref t0), some (.int x1), some (.int x2), none] [] h := by rw [hs_C, mL221]; rfl
theorem b221_0 {t0 : Nat} {x1 x2 : Int32} (o_t0 : ok11 S R t0) : hs_R scr (d + 1) 221 0 [some (.ref t0), some (.int x1), some (.int x2), none] [] (S, I, L, R) = (if (I t0 12) = 0 then (if (I t0 14) = 2 then hs_R scr (d + 1) 221 19 [some (.ref t0), some (.int x1), some (.int x2), none] [] (S, I, L, R) else ((hs_C scr d 222 [.ref t0] (S, I, L, R)).bind fun o => hs_R scr (d + 1) 221 19 [some (.ref t0), some (.int x1), some (.int x2), none] (o.1.toList ++ []) o.2)) else hs_R scr (d + 1) 221 19 [some (.ref t0), some (.int x1), some (.int x2), none] [] (S, I, L, R)) := Eq.trans (r_al_n d221_0 rfl) (Eq.trans (r_getI d221_1 f221_204 o_t0.2.1) (Eq.trans (r_zne d221_4 rfl) (q_ite (Eq.trans (r_al_n d221_7 rfl) (Eq.trans (r_getI d221_8 f221_115 o_t0.2.1) (Eq.trans (r_ic d221_11 kI_2) (Eq.trans (r_ceq d221_12 rfl) (q_ite (rfl) (Eq.trans (r_al_n d221_15 rfl) (r_cvE (as := []) (r := []) d221_16 c221_217 ow222 o_t0.2.1 np222.symm rfl (hs_fitE mL222 (Nat.le_of_ble_eq_true rfl))))))))) (rfl))))
theorem b221_19 {t0 : Nat} {x1 x2 : Int32} (o_t0 : ok11 S R t0) : hs_R scr (d + 1) 221 19 [some (.ref t0), some (.int x1), some (.int x2), none] [] (S, I, L, R) = (if (I t0 12) = 0 then ((hs_C scr d 223 [.long (Int32.toInt64 (I t0 17)), .long (Int32.toInt64 x1), .long (Int32.toInt64 x2)] (S, I, L, R)).bind fun o => hs_R scr (d + 1) 221 38 [some (.ref t0), some (.int x1), some (.int x2), none] (o.1.toList ++ []) o.2) else hs_R scr (d + 1) 221 50 [some (.ref t0), some (.int x1), some (.int x2), none] [] (S, I, L, R)) := Eq.trans (r_al_n d221_19 rfl) (Eq.trans (r_getI d221_20 f221_204 o_t0.2.1) (Eq.trans (r_zne d221_23 rfl) (q_ite (Eq.trans (r_al_n d221_26 rfl) (Eq.trans (r_getI d221_27 f221_134 o_t0.2.1) (Eq.trans (r_i2l d221_30) (Eq.trans (r_il_n d221_31 rfl) (Eq.trans (r_i2l d221_32) (Eq.trans (r_il_n d221_33 rfl) (Eq.trans (r_i2l d221_34) (r_cs (as := [.long (Int32.toInt64 (I t0 17)), .long (Int32.toInt64 x1), .long (Int32.toInt64 x2)]) (r := []) d221_35 c221_95 np223.symm rfl (hs_fitE mL223 (Nat.le_of_ble_eq_true rfl)))))))))) (rfl))))
theorem b221_38 {t0 : Nat} {x1 x2 s0 : Int32} (o_t0 : ok11 S R t0) : hs_R scr (d + 1) 221 38 [some (.ref t0), some (.int x1), some (.int x2), none] [.int s0] (S, I, L, R) = (if s0 = 0 then ((hs_C scr d 220 [.ref t0, .int 4, .int (I t0 15)] (S, I, L, R)).bind fun o => hs_R scr (d + 1) 221 50 [some (.ref t0), some (.int x1), some (.int x2), none] (o.1.toList ++ []) o.2) else hs_R scr (d + 1) 221 50 [some (.ref t0), some (.int x1), some (.int x2), none] [] (S, I, L, R)) := Eq.trans (r_zne d221_38 rfl) (q_ite (Eq.trans (r_al_n d221_41 rfl) (Eq.trans (r_ic d221_42 kI_4) (Eq.trans (r_al_n d221_43 rfl) (Eq.trans (r_getI d221_44 f221_109 o_t0.2.1) (r_cvE (as := [.int 4, .int (I t0 15)]) (r := []) d221_47 c221_210 ow220 o_t0.2.1 np220.symm rfl (hs_fitE mL220 (Nat.le_of_ble_eq_true rfl))))))) (rfl))
theorem b221_50 {t0 : Nat} {x1 x2 : Int32} (o_t0 : ok11 S R t0) : hs_R scr (d + 1) 221 50 [some (.ref t0), some (.int x1), some (.int x2), none] [] (S, I, L, R) = (if (I t0 12) ≤ 0 then ((hs_C scr d 209 [.ref t0] (S, I, L, R)).bind fun o => hs_R scr (d + 1) 221 68 [some (.ref t0), some (.int x1), some (.int x2), some (.int (I t0 17))] (o.1.toList ++ []) o.2) else some (some (.int 0), (S, I, L, R))) := Eq.trans (r_al_n d221_50 rfl) (Eq.trans (r_getI d221_51 f221_204 o_t0.2.1) (Eq.trans (r_zle d221_54 rfl) (q_ite (Eq.trans (r_al_n d221_59 rfl) (Eq.trans (r_getI d221_60 f221_134 o_t0.2.1) (Eq.trans (r_is_n (loc' := [some (.ref t0), some (.int x1), some (.int x2), some (.int (I t0 17))]) d221_63 rfl) (Eq.trans (r_al_n d221_64 rfl) (r_cvE (as := []) (r := []) d221_65 c221_214 ow209 o_t0.2.1 np209.symm rfl (hs_fitE mL209 (Nat.le_of_ble_eq_true rfl))))))) (Eq.trans (r_ic d221_57 kI_0) (r_ri d221_58 rt221)))))
theorem b221_68 {t0 : Nat} {x1 x2 x3 : Int32}  : hs_R scr d 221 68 [some (.ref t0), some (.int x1), some (.int x2), some (.int x3)] [] (S, I, L, R) = some (some (.int x3), (S, I, L, R)) := Eq.trans (r_il_n d221_68 rfl) (r_ri d221_69 rt221)
theorem e222 {t0 : Nat} : hs_C scr d 222 [.ref t0] h = hs_R scr d 222 0 [some (.ref t0)] [] h := by rw [hs_C, mL222]; rfl
theorem b222_0 {t0 : Nat} (o_t0 : ok11 S R t0) : hs_R scr d 222 0 [some (.ref t0)] [] (S, I, L, R) = (if (I t0 14) = 4 then hs_R scr d 222 14 [some (.ref t0)] [.int 1, .ref t0] (S, I, L, R) else hs_R scr d 222 14 [some (.ref t0)] [.int 2, .ref t0] (S, I, L, R)) := Eq.trans (r_al_n d222_0 rfl) (Eq.trans (r_al_n d222_1 rfl) (Eq.trans (r_getI d222_2 f222_115 o_t0.2.1) (Eq.trans (r_ic d222_5 kI_4) (Eq.trans (r_cne d222_6 rfl) (q_ite (Eq.trans (r_ic d222_9 kI_1) (Eq.trans (r_goto d222_10 rfl) (rfl))) (Eq.trans (r_ic d222_13 kI_2) (rfl)))))))
theorem b222_14 {t0 u0 : Nat} {s1 : Int32} (o_t0 : ok11 S R t0) (o_u0 : ok11 S R u0) : hs_R scr (d + 1) 222 14 [some (.ref t0)] [.int s1, .ref u0] (S, I, L, R) = ((hs_C scr d 220 [.ref u0, .int s1, .int (I t0 15)] (S, I, L, R)).bind fun o => hs_R scr (d + 1) 222 21 [some (.ref t0)] (o.1.toList ++ []) o.2) := Eq.trans (r_al_n d222_14 rfl) (Eq.trans (r_getI d222_15 f222_109 o_t0.2.1) (r_cvE (as := [.int s1, .int (I t0 15)]) (r := []) d222_18 c222_210 ow220 o_u0.2.1 np220.symm rfl (hs_fitE mL220 (Nat.le_of_ble_eq_true rfl))))
theorem b222_21 {t0 : Nat}  : hs_R scr d 222 21 [some (.ref t0)] [] (S, I, L, R) = some (none, (S, I, L, R)) := r_rv d222_21 rt222
theorem e223 {y0 : Int64} {y2 : Int64} {y4 : Int64} : hs_C scr d 223 [.long y0, .long y2, .long y4] h = hs_R scr d 223 0 [some (.long y0), none, some (.long y2), none, some (.long y4), none] [] h := by rw [hs_C, mL223]; rfl
theorem b223_0 {y0 y2 y4 : Int64}  : hs_R scr d 223 0 [some (.long y0), none, some (.long y2), none, some (.long y4), none] [] (S, I, L, R) = (if (lg_cmp y0 y2) < 0 then hs_R scr d 223 17 [some (.long y0), none, some (.long y2), none, some (.long y4), none] [] (S, I, L, R) else (if (0 : Int32) < (lg_cmp y0 y4) then hs_R scr d 223 17 [some (.long y0), none, some (.long y2), none, some (.long y4), none] [] (S, I, L, R) else hs_R scr d 223 18 [some (.long y0), none, some (.long y2), none, some (.long y4), none] [.int 1] (S, I, L, R))) := Eq.trans (r_ll_n d223_0 rfl) (Eq.trans (r_ll_n d223_1 rfl) (Eq.trans (r_lcmp d223_2) (Eq.trans (r_zlt d223_3 rfl) (q_ite (rfl) (Eq.trans (r_ll_n d223_6 rfl) (Eq.trans (r_ll d223_7 rfl) (Eq.trans (r_lcmp d223_9) (Eq.trans (r_zgt d223_10 rfl) (q_ite (rfl) (Eq.trans (r_ic d223_13 kI_1) (Eq.trans (r_goto d223_14 rfl) (rfl))))))))))))
theorem b223_17 {y0 y2 y4 : Int64}  : hs_R scr d 223 17 [some (.long y0), none, some (.long y2), none, some (.long y4), none] [] (S, I, L, R) = hs_R scr d 223 18 [some (.long y0), none, some (.long y2), none, some (.long y4), none] [.int 0] (S, I, L, R) := Eq.trans (r_ic d223_17 kI_0) (rfl)
theorem b223_18 {y0 y2 y4 : Int64} {s0 : Int32}  : hs_R scr d 223 18 [some (.long y0), none, some (.long y2), none, some (.long y4), none] [.int s0] (S, I, L, R) = (if s0 = 0 ∨ s0 = 1 then some (some (.int s0), (S, I, L, R)) else none) := r_rz d223_18 rt223
theorem e224 {t0 : Nat} : hs_C scr d 224 [.ref t0] h = hs_R scr d 224 0 [some (.ref t0)] [] h := by rw [hs_C, mL224]; rfl
theorem b224_0 {t0 : Nat}  : hs_R scr (d + 1) 224 0 [some (.ref t0)] [] (S, I, L, R) = ((hs_C scr d 216 [.int 103, .int 114, .int 101, .int 121, .int 115, .int 0] (S, I, L, R)).bind fun o => hs_R scr (d + 1) 224 15 [some (.ref t0)] (o.1.toList ++ [.ref t0]) o.2) := Eq.trans (r_al_n d224_0 rfl) (Eq.trans (r_bp d224_1 kB_103) (Eq.trans (r_bp d224_3 kB_114) (Eq.trans (r_bp d224_5 kB_101) (Eq.trans (r_bp d224_7 kB_121) (Eq.trans (r_bp d224_9 kB_115) (Eq.trans (r_ic d224_11 kI_0) (r_cs (as := [.int 103, .int 114, .int 101, .int 121, .int 115, .int 0]) (r := [.ref t0]) d224_12 c224_140 np216.symm rfl (hs_fitE mL216 (Nat.le_of_ble_eq_true rfl)))))))))
theorem b224_15 {t0 u0 : Nat} {v1 : Int64} (o_u0 : ok11 S R u0) : hs_R scr (d + 1) 224 15 [some (.ref t0)] [.long v1, .ref u0] (S, I, L, R) = ((hs_C scr d 217 [.ref u0, .long v1] (S, I, L, R)).bind fun o => hs_R scr (d + 1) 224 18 [some (.ref t0)] (o.1.toList ++ []) o.2) := r_cvE (as := [.long v1]) (r := []) d224_15 c224_144 ow217 o_u0.2.1 np217.symm rfl (hs_fitE mL217 (Nat.le_of_ble_eq_true rfl))
theorem b224_18 {t0 : Nat} {s0 : Int32}  : hs_R scr d 224 18 [some (.ref t0)] [.int s0] (S, I, L, R) = (if s0 = 0 ∨ s0 = 1 then some (some (.int s0), (S, I, L, R)) else none) := r_rz d224_18 rt224
theorem e225 {t0 : Nat} : hs_C scr d 225 [.ref t0] h = hs_R scr d 225 0 [some (.ref t0)] [] h := by rw [hs_C, mL225]; rfl
theorem b225_0 {t0 : Nat}  : hs_R scr (d + 1) 225 0 [some (.ref t0)] [] (S, I, L, R) = ((hs_C scr d 216 [.int 104, .int 97, .int 105, .int 114, .int 0, .int 0] (S, I, L, R)).bind fun o => hs_R scr (d + 1) 225 14 [some (.ref t0)] (o.1.toList ++ [.ref t0]) o.2) := Eq.trans (r_al_n d225_0 rfl) (Eq.trans (r_bp d225_1 kB_104) (Eq.trans (r_bp d225_3 kB_97) (Eq.trans (r_bp d225_5 kB_105) (Eq.trans (r_bp d225_7 kB_114) (Eq.trans (r_ic d225_9 kI_0) (Eq.trans (r_ic d225_10 kI_0) (r_cs (as := [.int 104, .int 97, .int 105, .int 114, .int 0, .int 0]) (r := [.ref t0]) d225_11 c225_140 np216.symm rfl (hs_fitE mL216 (Nat.le_of_ble_eq_true rfl)))))))))
theorem b225_14 {t0 u0 : Nat} {v1 : Int64} (o_u0 : ok11 S R u0) : hs_R scr (d + 1) 225 14 [some (.ref t0)] [.long v1, .ref u0] (S, I, L, R) = ((hs_C scr d 217 [.ref u0, .long v1] (S, I, L, R)).bind fun o => hs_R scr (d + 1) 225 17 [some (.ref t0)] (o.1.toList ++ []) o.2) := r_cvE (as := [.long v1]) (r := []) d225_14 c225_144 ow217 o_u0.2.1 np217.symm rfl (hs_fitE mL217 (Nat.le_of_ble_eq_true rfl))
theorem b225_17 {t0 : Nat} {s0 : Int32}  : hs_R scr d 225 17 [some (.ref t0)] [.int s0] (S, I, L, R) = (if s0 = 0 ∨ s0 = 1 then some (some (.int s0), (S, I, L, R)) else none) := r_rz d225_17 rt225
theorem e226 {t0 : Nat} : hs_C scr d 226 [.ref t0] h = hs_R scr d 226 0 [some (.ref t0), none, none, none, none, none] [] h := by rw [hs_C, mL226]; rfl
theorem b226_0 {t0 : Nat} (o_t0 : ok11 S R t0) : hs_R scr (d + 1) 226 0 [some (.ref t0), none, none, none, none, none] [] (S, I, L, R) = ((hs_C scr d 227 [.ref t0, .int 0, .int 8] (S, I, L, R)).bind fun o => hs_R scr (d + 1) 226 7 [some (.ref t0), none, none, none, none, none] (o.1.toList ++ []) o.2) := Eq.trans (r_al_n d226_0 rfl) (Eq.trans (r_ic d226_1 kI_0) (Eq.trans (r_bp d226_2 kB_8) (r_cvE (as := [.int 0, .int 8]) (r := []) d226_4 c226_254 ow227 o_t0.2.1 np227.symm rfl (hs_fitE mL227 (Nat.le_of_ble_eq_true rfl)))))
theorem b226_7 {t0 : Nat} {s0 : Int32} (o_t0 : ok11 S R t0) : hs_R scr (d + 1) 226 7 [some (.ref t0), none, none, none, none, none] [.int s0] (S, I, L, R) = ((hs_C scr d 242 [.ref t0] (S, I, L, R)).bind fun o => hs_R scr (d + 1) 226 13 [some (.ref t0), some (.int s0), none, none, none, none] (o.1.toList ++ [.ref t0]) o.2) := Eq.trans (r_is_n (loc' := [some (.ref t0), some (.int s0), none, none, none, none]) d226_7 rfl) (Eq.trans (r_al_n d226_8 rfl) (Eq.trans (r_al_n d226_9 rfl) (r_cvE (as := []) (r := [.ref t0]) d226_10 c226_148 ow242 o_t0.2.1 np242.symm rfl (hs_fitE mL242 (Nat.le_of_ble_eq_true rfl)))))
theorem b226_13 {t0 u0 : Nat} {x1 s1 : Int32} (o_u0 : ok11 S R u0) : hs_R scr (d + 1) 226 13 [some (.ref t0), some (.int x1), none, none, none, none] [.int s1, .ref u0] (S, I, L, R) = ((hs_C scr d 247 [.ref u0, .int s1, .int 0, .int 99] (S, I, L, R)).bind fun o => hs_R scr (d + 1) 226 19 [some (.ref t0), some (.int x1), none, none, none, none] (o.1.toList ++ []) o.2) := Eq.trans (r_ic d226_13 kI_0) (Eq.trans (r_bp d226_14 kB_99) (r_cvE (as := [.int s1, .int 0, .int 99]) (r := []) d226_16 c226_257 ow247 o_u0.2.1 np247.symm rfl (hs_fitE mL247 (Nat.le_of_ble_eq_true rfl))))
theorem b226_19 {t0 : Nat} {x1 s0 : Int32} (o_t0 : ok11 S R t0) : hs_R scr (d + 1) 226 19 [some (.ref t0), some (.int x1), none, none, none, none] [.int s0] (S, I, L, R) = ((hs_C scr d 230 [.ref t0] (S, I, L, R)).bind fun o => hs_R scr (d + 1) 226 25 [some (.ref t0), some (.int x1), some (.int s0), none, none, none] (o.1.toList ++ [.ref t0]) o.2) := Eq.trans (r_is_n (loc' := [some (.ref t0), some (.int x1), some (.int s0), none, none, none]) d226_19 rfl) (Eq.trans (r_al_n d226_20 rfl) (Eq.trans (r_al_n d226_21 rfl) (r_cvE (as := []) (r := [.ref t0]) d226_22 c226_165 ow230 o_t0.2.1 np230.symm rfl (hs_fitE mL230 (Nat.le_of_ble_eq_true rfl)))))
theorem b226_25 {t0 u0 : Nat} {x1 x2 s1 : Int32} (o_u0 : ok11 S R u0) : hs_R scr (d + 1) 226 25 [some (.ref t0), some (.int x1), some (.int x2), none, none, none] [.int s1, .ref u0] (S, I, L, R) = ((hs_C scr d 249 [.ref u0, .int s1] (S, I, L, R)).bind fun o => hs_R scr (d + 1) 226 28 [some (.ref t0), some (.int x1), some (.int x2), none, none, none] (o.1.toList ++ []) o.2) := r_cvE (as := [.int s1]) (r := []) d226_25 c226_261 ow249 o_u0.2.1 np249.symm rfl (hs_fitE mL249 (Nat.le_of_ble_eq_true rfl))
theorem b226_28 {t0 : Nat} {x1 x2 s0 : Int32} (o_t0 : ok11 S R t0) : hs_R scr (d + 1) 226 28 [some (.ref t0), some (.int x1), some (.int x2), none, none, none] [.int s0] (S, I, L, R) = (if s0 = 0 then hs_R scr (d + 1) 226 42 [some (.ref t0), some (.int x1), some (.int x2), none, none, none] [.int 1] (S, I, L, R) else ((hs_C scr d 221 [.ref t0, .int 0, .int 9] (S, I, L, R)).bind fun o => hs_R scr (d + 1) 226 38 [some (.ref t0), some (.int x1), some (.int x2), none, none, none] (o.1.toList ++ []) o.2)) := Eq.trans (r_zeq d226_28 rfl) (q_ite (Eq.trans (r_ic d226_41 kI_1) (rfl)) (Eq.trans (r_al_n d226_31 rfl) (Eq.trans (r_ic d226_32 kI_0) (Eq.trans (r_bp d226_33 kB_9) (r_cvE (as := [.int 0, .int 9]) (r := []) d226_35 c226_224 ow221 o_t0.2.1 np221.symm rfl (hs_fitE mL221 (Nat.le_of_ble_eq_true rfl)))))))
theorem b226_38 {t0 : Nat} {x1 x2 s0 : Int32}  : hs_R scr d 226 38 [some (.ref t0), some (.int x1), some (.int x2), none, none, none] [.int s0] (S, I, L, R) = hs_R scr d 226 42 [some (.ref t0), some (.int x1), some (.int x2), none, none, none] [.int s0] (S, I, L, R) := Eq.trans (r_goto d226_38 rfl) (rfl)
theorem b226_42 {t0 : Nat} {x1 x2 s0 : Int32} (o_t0 : ok11 S R t0) : hs_R scr (d + 1) 226 42 [some (.ref t0), some (.int x1), some (.int x2), none, none, none] [.int s0] (S, I, L, R) = (if (I t0 12) = 0 then ((hs_C scr d 239 [.ref t0] (S, I, L, R)).bind fun o => hs_R scr (d + 1) 226 54 [some (.ref t0), some (.int x1), some (.int x2), some (.int s0), none, none] (o.1.toList ++ []) o.2) else hs_R scr (d + 1) 226 80 [some (.ref t0), some (.int x1), some (.int x2), some (.int s0), none, none] [] (S, I, L, R)) := Eq.trans (r_is_n (loc' := [some (.ref t0), some (.int x1), some (.int x2), some (.int s0), none, none]) d226_42 rfl) (Eq.trans (r_al_n d226_43 rfl) (Eq.trans (r_getI d226_44 f226_204 o_t0.2.1) (Eq.trans (r_zne d226_47 rfl) (q_ite (Eq.trans (r_al_n d226_50 rfl) (r_cvE (as := []) (r := []) d226_51 c226_192 ow239 o_t0.2.1 np239.symm rfl (hs_fitE mL239 (Nat.le_of_ble_eq_true rfl)))) (rfl)))))
theorem b226_54 {t0 : Nat} {x1 x2 x3 s0 : Int32} (o_t0 : ok11 S R t0) : hs_R scr (d + 1) 226 54 [some (.ref t0), some (.int x1), some (.int x2), some (.int x3), none, none] [.int s0] (S, I, L, R) = (if s0 < 0 then hs_R scr (d + 1) 226 80 [some (.ref t0), some (.int x1), some (.int x2), some (.int x3), none, none] [] (S, I, L, R) else ((hs_C scr d 239 [.ref t0] (S, I, L, R)).bind fun o => hs_R scr (d + 1) 226 61 [some (.ref t0), some (.int x1), some (.int x2), some (.int x3), none, none] (o.1.toList ++ []) o.2)) := Eq.trans (r_zlt d226_54 rfl) (q_ite (rfl) (Eq.trans (r_al_n d226_57 rfl) (r_cvE (as := []) (r := []) d226_58 c226_192 ow239 o_t0.2.1 np239.symm rfl (hs_fitE mL239 (Nat.le_of_ble_eq_true rfl)))))
theorem b226_61 {t0 : Nat} {x1 x2 x3 s0 : Int32} (o_t0 : ok11 S R t0) : hs_R scr (d + 1) 226 61 [some (.ref t0), some (.int x1), some (.int x2), some (.int x3), none, none] [.int s0] (S, I, L, R) = (if s0 = 1 then hs_R scr (d + 1) 226 80 [some (.ref t0), some (.int x1), some (.int x2), some (.int x3), none, none] [] (S, I, L, R) else ((hs_C scr d 239 [.ref t0] (S, I, L, R)).bind fun o => hs_R scr (d + 1) 226 69 [some (.ref t0), some (.int x1), some (.int x2), some (.int x3), none, none] (o.1.toList ++ []) o.2)) := Eq.trans (r_ic d226_61 kI_1) (Eq.trans (r_ceq d226_62 rfl) (q_ite (rfl) (Eq.trans (r_al_n d226_65 rfl) (r_cvE (as := []) (r := []) d226_66 c226_192 ow239 o_t0.2.1 np239.symm rfl (hs_fitE mL239 (Nat.le_of_ble_eq_true rfl))))))
theorem b226_69 {t0 : Nat} {x1 x2 x3 s0 : Int32} (o_t0 : ok11 S R t0) : hs_R scr (d + 1) 226 69 [some (.ref t0), some (.int x1), some (.int x2), some (.int x3), none, none] [.int s0] (S, I, L, R) = (if s0 = 3 then hs_R scr (d + 1) 226 80 [some (.ref t0), some (.int x1), some (.int x2), some (.int x3), none, none] [] (S, I, L, R) else ((hs_C scr d 239 [.ref t0] (S, I, L, R)).bind fun o => hs_R scr (d + 1) 226 77 [some (.ref t0), some (.int x1), some (.int x2), some (.int x3), none, none] (o.1.toList ++ []) o.2)) := Eq.trans (r_ic d226_69 kI_3) (Eq.trans (r_ceq d226_70 rfl) (q_ite (rfl) (Eq.trans (r_al_n d226_73 rfl) (r_cvE (as := []) (r := []) d226_74 c226_192 ow239 o_t0.2.1 np239.symm rfl (hs_fitE mL239 (Nat.le_of_ble_eq_true rfl))))))
theorem b226_77 {t0 : Nat} {x1 x2 x3 s0 : Int32}  : hs_R scr d 226 77 [some (.ref t0), some (.int x1), some (.int x2), some (.int x3), none, none] [.int s0] (S, I, L, R) = hs_R scr d 226 81 [some (.ref t0), some (.int x1), some (.int x2), some (.int x3), none, none] [.int s0] (S, I, L, R) := Eq.trans (r_goto d226_77 rfl) (rfl)
theorem b226_80 {t0 : Nat} {x1 x2 x3 : Int32}  : hs_R scr d 226 80 [some (.ref t0), some (.int x1), some (.int x2), some (.int x3), none, none] [] (S, I, L, R) = hs_R scr d 226 81 [some (.ref t0), some (.int x1), some (.int x2), some (.int x3), none, none] [.int (-1)] (S, I, L, R) := Eq.trans (r_ic d226_80 kI_m1) (rfl)
theorem b226_81 {t0 : Nat} {x1 x2 x3 s0 : Int32} (o_t0 : ok11 S R t0) : hs_R scr (d + 1) 226 81 [some (.ref t0), some (.int x1), some (.int x2), some (.int x3), none, none] [.int s0] (S, I, L, R) = (if s0 < 0 then hs_R scr (d + 1) 226 92 [some (.ref t0), some (.int x1), some (.int x2), some (.int x3), some (.int s0), none] [] (S, I, L, R) else ((hs_C scr d 209 [.ref t0] (S, I, L, R)).bind fun o => hs_R scr (d + 1) 226 92 [some (.ref t0), some (.int x1), some (.int x2), some (.int x3), some (.int s0), none] (o.1.toList ++ []) o.2)) := Eq.trans (r_is (loc' := [some (.ref t0), some (.int x1), some (.int x2), some (.int x3), some (.int s0), none]) d226_81 rfl) (Eq.trans (r_il d226_83 rfl) (Eq.trans (r_zlt d226_85 rfl) (q_ite (rfl) (Eq.trans (r_al_n d226_88 rfl) (r_cvE (as := []) (r := []) d226_89 c226_214 ow209 o_t0.2.1 np209.symm rfl (hs_fitE mL209 (Nat.le_of_ble_eq_true rfl)))))))
theorem b226_92 {t0 : Nat} {x1 x2 x3 x4 : Int32} (o_t0 : ok11 S R t0) : hs_R scr d 226 92 [some (.ref t0), some (.int x1), some (.int x2), some (.int x3), some (.int x4), none] [] (S, I, L, R) = (if (I t0 12) ≤ 0 then (if hs_ib ((1606 : Int32) + x1) 1995 = true then (if hs_ib ((1614 : Int32) + x1) 1995 = true then (if (0 : Int32) ≤ x4 then hs_R scr d 226 142 [some (.ref t0), some (.int x1), some (.int x2), some (.int x3), some (.int x4), none] [.int x4, .int ((1622 : Int32) + x1), .ref (t0 + 5)] (S, (hs_u (hs_u I (t0 + 5) (Int32.toNatClampNeg ((1606 : Int32) + x1)) x2) (t0 + 5) (Int32.toNatClampNeg ((1614 : Int32) + x1)) x3), L, R) else hs_R scr d 226 142 [some (.ref t0), some (.int x1), some (.int x2), some (.int x3), some (.int x4), none] [.int 1, .int ((1622 : Int32) + x1), .ref (t0 + 5)] (S, (hs_u (hs_u I (t0 + 5) (Int32.toNatClampNeg ((1606 : Int32) + x1)) x2) (t0 + 5) (Int32.toNatClampNeg ((1614 : Int32) + x1)) x3), L, R)) else none) else none) else some (none, (S, I, L, R))) := Eq.trans (r_al_n d226_92 rfl) (Eq.trans (r_getI d226_93 f226_204 o_t0.2.1) (Eq.trans (r_zle d226_96 rfl) (q_ite (Eq.trans (r_al_n d226_100 rfl) (Eq.trans (r_getRe d226_101 f226_35 o_t0.2.1 (o_t0.2.2.2.2.2.2.2.2.2.2.1) (Nat.le_trans o_t0.1 (Nat.le_add_right _ _))) (Eq.trans (r_sp d226_104 kS_1606) (Eq.trans (r_il_n d226_107 rfl) (Eq.trans (r_iadd d226_108) (Eq.trans (r_il_n d226_109 rfl) (Eq.trans (r_iast d226_110 (o_t0.2.2.2.2.2.2.2.2.2.2.2.1)) (q_ite (Eq.trans (r_al_n d226_111 rfl) (Eq.trans (r_getRe d226_112 f226_35 o_t0.2.1 (o_t0.2.2.2.2.2.2.2.2.2.2.1) (Nat.le_trans o_t0.1 (Nat.le_add_right _ _))) (Eq.trans (r_sp d226_115 kS_1614) (Eq.trans (r_il_n d226_118 rfl) (Eq.trans (r_iadd d226_119) (Eq.trans (r_il_n d226_120 rfl) (Eq.trans (r_iast d226_121 (o_t0.2.2.2.2.2.2.2.2.2.2.2.1)) (q_ite (Eq.trans (r_al_n d226_122 rfl) (Eq.trans (r_getRe d226_123 f226_35 o_t0.2.1 (o_t0.2.2.2.2.2.2.2.2.2.2.1) (Nat.le_trans o_t0.1 (Nat.le_add_right _ _))) (Eq.trans (r_sp d226_126 kS_1622) (Eq.trans (r_il_n d226_129 rfl) (Eq.trans (r_iadd d226_130) (Eq.trans (r_il d226_131 rfl) (Eq.trans (r_zge d226_133 rfl) (q_ite (Eq.trans (r_il d226_140 rfl) (rfl)) (Eq.trans (r_ic d226_136 kI_1) (Eq.trans (r_goto d226_137 rfl) (rfl))))))))))) rfl)))))))) rfl)))))))) (r_rv d226_99 rt226))))
theorem b226_142 {t0 u0 n_u0 : Nat} {x1 x2 x3 x4 s1 s2 : Int32} (a_u0 : S[u0]? = some (.inr (.int, n_u0))) : hs_R scr d 226 142 [some (.ref t0), some (.int x1), some (.int x2), some (.int x3), some (.int x4), none] [.int s2, .int s1, .ref u0] (S, I, L, R) = (if hs_ib s1 n_u0 = true then hs_R scr d 226 146 [some (.ref t0), some (.int x1), some (.int x2), some (.int x3), some (.int x4), some (.int 0)] [] (S, (hs_u I u0 (Int32.toNatClampNeg s1) s2), L, R) else none) := Eq.trans (r_iast d226_142 a_u0) (q_ite (Eq.trans (r_ic d226_143 kI_0) (Eq.trans (r_is (loc' := [some (.ref t0), some (.int x1), some (.int x2), some (.int x3), some (.int x4), some (.int 0)]) d226_144 rfl) (rfl))) rfl)
theorem b226_146 {t0 : Nat} {x1 x2 x3 x4 x5 : Int32} (o_t0 : ok11 S R t0) : hs_R scr d 226 146 [some (.ref t0), some (.int x1), some (.int x2), some (.int x3), some (.int x4), some (.int x5)] [] (S, I, L, R) = (if (6 : Int32) ≤ x5 then some (none, (S, (hs_u I (t0 + 5) 1596 ((I (t0 + 5) 1596) + 1)), L, R)) else (if hs_ib (((1655 : Int32) + ((8 : Int32) * x5)) + x1) 1995 = true then hs_R scr d 226 146 [some (.ref t0), some (.int x1), some (.int x2), some (.int x3), some (.int x4), some (.int (x5 + 1))] [] (S, (hs_u I (t0 + 5) (Int32.toNatClampNeg (((1655 : Int32) + ((8 : Int32) * x5)) + x1)) 3), L, R) else none)) := Eq.trans (r_il d226_146 rfl) (Eq.trans (r_bp d226_148 kB_6) (Eq.trans (r_cge d226_150 rfl) (q_ite (Eq.trans (r_al_n d226_176 rfl) (Eq.trans (r_getRe d226_177 f226_35 o_t0.2.1 (o_t0.2.2.2.2.2.2.2.2.2.2.1) (Nat.le_trans o_t0.1 (Nat.le_add_right _ _))) (Eq.trans (r_sp d226_180 kS_1596) (Eq.trans (r_dup2 d226_183 ⟨rfl, rfl⟩) (Eq.trans ((r_ialdC d226_184 (o_t0.2.2.2.2.2.2.2.2.2.2.2.1) ib_1596_1995 tn_1596)) (Eq.trans (r_ic d226_185 kI_1) (Eq.trans (r_iadd d226_186) (Eq.trans ((r_iastC d226_187 (o_t0.2.2.2.2.2.2.2.2.2.2.2.1) ib_1596_1995 tn_1596)) (r_rv d226_188 rt226))))))))) (Eq.trans (r_al_n d226_153 rfl) (Eq.trans (r_getRe d226_154 f226_35 o_t0.2.1 (o_t0.2.2.2.2.2.2.2.2.2.2.1) (Nat.le_trans o_t0.1 (Nat.le_add_right _ _))) (Eq.trans (r_sp d226_157 kS_1655) (Eq.trans (r_bp d226_160 kB_8) (Eq.trans (r_il d226_162 rfl) (Eq.trans (r_imul d226_164) (Eq.trans (r_iadd d226_165) (Eq.trans (r_il_n d226_166 rfl) (Eq.trans (r_iadd d226_167) (Eq.trans (r_ic d226_168 kI_3) (Eq.trans (r_iast d226_169 (o_t0.2.2.2.2.2.2.2.2.2.2.2.1)) (q_ite (Eq.trans (r_inc (loc' := [some (.ref t0), some (.int x1), some (.int x2), some (.int x3), some (.int x4), some (.int (x5 + 1))]) d226_170 kI_1 rfl rfl) (Eq.trans (r_goto d226_173 rfl) (rfl))) rfl)))))))))))))))
theorem e227 {t0 : Nat} {x1 : Int32} {x2 : Int32} : hs_C scr d 227 [.ref t0, .int x1, .int x2] h = hs_R scr d 227 0 [some (.ref t0), some (.int x1), some (.int x2), none] [] h := by rw [hs_C, mL227]; rfl
theorem b227_0 {t0 : Nat} {x1 x2 : Int32} (o_t0 : ok11 S R t0) : hs_R scr (d + 1) 227 0 [some (.ref t0), some (.int x1), some (.int x2), none] [] (S, I, L, R) = (if hs_ib ((1596 : Int32) + x1) 1995 = true then (if (I (t0 + 5) (Int32.toNatClampNeg ((1596 : Int32) + x1))) = x2 then ((hs_C scr d 220 [.ref t0, .int 6, .int (I t0 15)] (S, I, L, R)).bind fun o => hs_R scr (d + 1) 227 26 [some (.ref t0), some (.int x1), some (.int x2), some (.int (I (t0 + 5) (Int32.toNatClampNeg ((1596 : Int32) + x1))))] (o.1.toList ++ []) o.2) else hs_R scr (d + 1) 227 26 [some (.ref t0), some (.int x1), some (.int x2), some (.int (I (t0 + 5) (Int32.toNatClampNeg ((1596 : Int32) + x1))))] [] (S, I, L, R)) else none) := Eq.trans (r_al_n d227_0 rfl) (Eq.trans (r_getRe d227_1 f227_35 o_t0.2.1 (o_t0.2.2.2.2.2.2.2.2.2.2.1) (Nat.le_trans o_t0.1 (Nat.le_add_right _ _))) (Eq.trans (r_sp d227_4 kS_1596) (Eq.trans (r_il_n d227_7 rfl) (Eq.trans (r_iadd d227_8) (Eq.trans (r_iald d227_9 (o_t0.2.2.2.2.2.2.2.2.2.2.2.1)) (q_ite (Eq.trans (r_is_n (loc' := [some (.ref t0), some (.int x1), some (.int x2), some (.int (I (t0 + 5) (Int32.toNatClampNeg ((1596 : Int32) + x1))))]) d227_10 rfl) (Eq.trans (r_il_n d227_11 rfl) (Eq.trans (r_il_n d227_12 rfl) (Eq.trans (r_cne d227_13 rfl) (q_ite (Eq.trans (r_al_n d227_16 rfl) (Eq.trans (r_bp d227_17 kB_6) (Eq.trans (r_al_n d227_19 rfl) (Eq.trans (r_getI d227_20 f227_109 o_t0.2.1) (r_cvE (as := [.int 6, .int (I t0 15)]) (r := []) d227_23 c227_210 ow220 o_t0.2.1 np220.symm rfl (hs_fitE mL220 (Nat.le_of_ble_eq_true rfl))))))) (rfl)))))) rfl))))))
theorem b227_26 {t0 : Nat} {x1 x2 x3 : Int32} (o_t0 : ok11 S R t0) : hs_R scr (d + 1) 227 26 [some (.ref t0), some (.int x1), some (.int x2), some (.int x3)] [] (S, I, L, R) = (if (I t0 12) ≤ 0 then ((hs_C scr d 209 [.ref t0] (S, I, L, R)).bind fun o => hs_R scr (d + 1) 227 39 [some (.ref t0), some (.int x1), some (.int x2), some (.int x3)] (o.1.toList ++ []) o.2) else some (some (.int 0), (S, I, L, R))) := Eq.trans (r_al_n d227_26 rfl) (Eq.trans (r_getI d227_27 f227_204 o_t0.2.1) (Eq.trans (r_zle d227_30 rfl) (q_ite (Eq.trans (r_al_n d227_35 rfl) (r_cvE (as := []) (r := []) d227_36 c227_214 ow209 o_t0.2.1 np209.symm rfl (hs_fitE mL209 (Nat.le_of_ble_eq_true rfl)))) (Eq.trans (r_ic d227_33 kI_0) (r_ri d227_34 rt227)))))
theorem b227_39 {t0 : Nat} {x1 x2 x3 : Int32} (o_t0 : ok11 S R t0) : hs_R scr (d + 1) 227 39 [some (.ref t0), some (.int x1), some (.int x2), some (.int x3)] [] (S, I, L, R) = ((hs_C scr d 228 [.ref t0] (S, I, L, R)).bind fun o => hs_R scr (d + 1) 227 43 [some (.ref t0), some (.int x1), some (.int x2), some (.int x3)] (o.1.toList ++ []) o.2) := Eq.trans (r_al_n d227_39 rfl) (r_cvE (as := []) (r := []) d227_40 c227_239 ow228 o_t0.2.1 np228.symm rfl (hs_fitE mL228 (Nat.le_of_ble_eq_true rfl)))
theorem b227_43 {t0 : Nat} {x1 x2 x3 s0 : Int32} (o_t0 : ok11 S R t0) : hs_R scr (d + 1) 227 43 [some (.ref t0), some (.int x1), some (.int x2), some (.int x3)] [.int s0] (S, I, L, R) = (if s0 = 0 then ((hs_C scr d 222 [.ref t0] (S, I, L, R)).bind fun o => hs_R scr (d + 1) 227 50 [some (.ref t0), some (.int x1), some (.int x2), some (.int x3)] (o.1.toList ++ []) o.2) else hs_R scr (d + 1) 227 50 [some (.ref t0), some (.int x1), some (.int x2), some (.int x3)] [] (S, I, L, R)) := Eq.trans (r_zne d227_43 rfl) (q_ite (Eq.trans (r_al_n d227_46 rfl) (r_cvE (as := []) (r := []) d227_47 c227_217 ow222 o_t0.2.1 np222.symm rfl (hs_fitE mL222 (Nat.le_of_ble_eq_true rfl)))) (rfl))
theorem b227_50 {t0 : Nat} {x1 x2 x3 : Int32} (o_t0 : ok11 S R t0) : hs_R scr (d + 1) 227 50 [some (.ref t0), some (.int x1), some (.int x2), some (.int x3)] [] (S, I, L, R) = (if (I t0 12) = 0 then ((hs_C scr d 244 [.ref t0] (S, I, L, R)).bind fun o => hs_R scr (d + 1) 227 61 [some (.ref t0), some (.int x1), some (.int x2), some (.int x3)] (o.1.toList ++ []) o.2) else hs_R scr (d + 1) 227 73 [some (.ref t0), some (.int x1), some (.int x2), some (.int x3)] [] (S, I, L, R)) := Eq.trans (r_al_n d227_50 rfl) (Eq.trans (r_getI d227_51 f227_204 o_t0.2.1) (Eq.trans (r_zne d227_54 rfl) (q_ite (Eq.trans (r_al_n d227_57 rfl) (r_cvE (as := []) (r := []) d227_58 c227_242 ow244 o_t0.2.1 np244.symm rfl (hs_fitE mL244 (Nat.le_of_ble_eq_true rfl)))) (rfl))))
theorem b227_61 {t0 : Nat} {x1 x2 x3 s0 : Int32} (o_t0 : ok11 S R t0) : hs_R scr (d + 1) 227 61 [some (.ref t0), some (.int x1), some (.int x2), some (.int x3)] [.int s0] (S, I, L, R) = (if s0 = 0 then hs_R scr (d + 1) 227 73 [some (.ref t0), some (.int x1), some (.int x2), some (.int x3)] [] (S, I, L, R) else ((hs_C scr d 220 [.ref t0, .int 3, .int (I t0 15)] (S, I, L, R)).bind fun o => hs_R scr (d + 1) 227 73 [some (.ref t0), some (.int x1), some (.int x2), some (.int x3)] (o.1.toList ++ []) o.2)) := Eq.trans (r_zeq d227_61 rfl) (q_ite (rfl) (Eq.trans (r_al_n d227_64 rfl) (Eq.trans (r_ic d227_65 kI_3) (Eq.trans (r_al_n d227_66 rfl) (Eq.trans (r_getI d227_67 f227_109 o_t0.2.1) (r_cvE (as := [.int 3, .int (I t0 15)]) (r := []) d227_70 c227_210 ow220 o_t0.2.1 np220.symm rfl (hs_fitE mL220 (Nat.le_of_ble_eq_true rfl))))))))
theorem b227_73 {t0 : Nat} {x1 x2 x3 : Int32} (o_t0 : ok11 S R t0) : hs_R scr (d + 1) 227 73 [some (.ref t0), some (.int x1), some (.int x2), some (.int x3)] [] (S, I, L, R) = (if (I t0 12) ≤ 0 then ((hs_C scr d 246 [.int x1] (S, I, L, R)).bind fun o => hs_R scr (d + 1) 227 92 [some (.ref t0), some (.int x1), some (.int x2), some (.int x3)] (o.1.toList ++ [.int 124, .ref (t0 + 8)]) o.2) else some (some (.int 0), (S, I, L, R))) := Eq.trans (r_al_n d227_73 rfl) (Eq.trans (r_getI d227_74 f227_204 o_t0.2.1) (Eq.trans (r_zle d227_77 rfl) (q_ite (Eq.trans (r_al_n d227_82 rfl) (Eq.trans (r_getRe d227_83 f227_44 o_t0.2.1 (o_t0.2.2.2.2.2.2.2.2.2.2.2.2.2.2.2.2.1) (Nat.le_trans o_t0.1 (Nat.le_add_right _ _))) (Eq.trans (r_bp d227_86 kB_124) (Eq.trans (r_il_n d227_88 rfl) (r_cs (as := [.int x1]) (r := [.int 124, .ref (t0 + 8)]) d227_89 c227_233 np246.symm rfl (hs_fitE mL246 (Nat.le_of_ble_eq_true rfl))))))) (Eq.trans (r_ic d227_80 kI_0) (r_ri d227_81 rt227)))))
theorem b227_92 {t0 u0 n_u0 : Nat} {x1 x2 x3 s1 s2 : Int32} (o_t0 : ok11 S R t0) (a_u0 : S[u0]? = some (.inr (.long, n_u0))) : hs_R scr (d + 1) 227 92 [some (.ref t0), some (.int x1), some (.int x2), some (.int x3)] [.int s2, .int s1, .ref u0] (S, I, L, R) = (if hs_ib ((s1 + s2) + x3) n_u0 = true then ((hs_C scr d 209 [.ref t0] (S, I, (hs_u L u0 (Int32.toNatClampNeg ((s1 + s2) + x3)) (L t0 19)), R)).bind fun o => hs_R scr (d + 1) 227 104 [some (.ref t0), some (.int x1), some (.int x2), some (.int x3)] (o.1.toList ++ []) o.2) else none) := Eq.trans (r_iadd d227_92) (Eq.trans (r_il_n d227_93 rfl) (Eq.trans (r_iadd d227_94) (Eq.trans (r_al_n d227_95 rfl) (Eq.trans (r_getL d227_96 f227_121 o_t0.2.1) (Eq.trans (r_last d227_99 a_u0) (q_ite (Eq.trans (r_al_n d227_100 rfl) (r_cvE (as := []) (r := []) d227_101 c227_214 ow209 o_t0.2.1 np209.symm rfl (hs_fitE mL209 (Nat.le_of_ble_eq_true rfl)))) rfl))))))
theorem b227_104 {t0 : Nat} {x1 x2 x3 : Int32}  : hs_R scr d 227 104 [some (.ref t0), some (.int x1), some (.int x2), some (.int x3)] [] (S, I, L, R) = some (some (.int x3), (S, I, L, R)) := Eq.trans (r_il_n d227_104 rfl) (r_ri d227_105 rt227)
theorem e228 {t0 : Nat} : hs_C scr d 228 [.ref t0] h = hs_R scr d 228 0 [some (.ref t0)] [] h := by rw [hs_C, mL228]; rfl
theorem b228_0 {t0 : Nat} (o_t0 : ok11 S R t0) : hs_R scr (d + 1) 228 0 [some (.ref t0)] [] (S, I, L, R) = (if (I t0 14) = 1 then (if (8 : Int32) < (I t0 18) then hs_R scr (d + 1) 228 28 [some (.ref t0)] [] (S, I, L, R) else ((hs_C scr d 229 [.ref t0] (S, I, L, R)).bind fun o => hs_R scr (d + 1) 228 21 [some (.ref t0)] (o.1.toList ++ []) o.2)) else hs_R scr (d + 1) 228 28 [some (.ref t0)] [] (S, I, L, R)) := Eq.trans (r_al_n d228_0 rfl) (Eq.trans (r_getI d228_1 f228_115 o_t0.2.1) (Eq.trans (r_ic d228_4 kI_1) (Eq.trans (r_cne d228_5 rfl) (q_ite (Eq.trans (r_al_n d228_8 rfl) (Eq.trans (r_getI d228_9 f228_128 o_t0.2.1) (Eq.trans (r_bp d228_12 kB_8) (Eq.trans (r_cgt d228_14 rfl) (q_ite (rfl) (Eq.trans (r_al_n d228_17 rfl) (r_cvE (as := []) (r := []) d228_18 c228_201 ow229 o_t0.2.1 np229.symm rfl (hs_fitE mL229 (Nat.le_of_ble_eq_true rfl))))))))) (rfl)))))
theorem b228_21 {t0 : Nat} {s0 : Int32}  : hs_R scr d 228 21 [some (.ref t0)] [.int s0] (S, I, L, R) = (if s0 = 0 then hs_R scr d 228 29 [some (.ref t0)] [.int 1] (S, I, L, R) else hs_R scr d 228 28 [some (.ref t0)] [] (S, I, L, R)) := Eq.trans (r_zne d228_21 rfl) (q_ite (Eq.trans (r_ic d228_24 kI_1) (Eq.trans (r_goto d228_25 rfl) (rfl))) (rfl))
theorem b228_28 {t0 : Nat}  : hs_R scr d 228 28 [some (.ref t0)] [] (S, I, L, R) = hs_R scr d 228 29 [some (.ref t0)] [.int 0] (S, I, L, R) := Eq.trans (r_ic d228_28 kI_0) (rfl)
theorem b228_29 {t0 : Nat} {s0 : Int32}  : hs_R scr d 228 29 [some (.ref t0)] [.int s0] (S, I, L, R) = (if s0 = 0 ∨ s0 = 1 then some (some (.int s0), (S, I, L, R)) else none) := r_rz d228_29 rt228
theorem e229 {t0 : Nat} : hs_C scr d 229 [.ref t0] h = hs_R scr d 229 0 [some (.ref t0)] [] h := by rw [hs_C, mL229]; rfl
theorem b229_0 {t0 : Nat} (o_t0 : ok11 S R t0) : hs_R scr (d + 1) 229 0 [some (.ref t0)] [] (S, I, L, R) = ((hs_C scr d 215 [.ref t0] (S, I, L, R)).bind fun o => hs_R scr (d + 1) 229 4 [some (.ref t0)] (o.1.toList ++ []) o.2) := Eq.trans (r_al_n d229_0 rfl) (r_cvE (as := []) (r := []) d229_1 c229_156 ow215 o_t0.2.1 np215.symm rfl (hs_fitE mL215 (Nat.le_of_ble_eq_true rfl)))
theorem b229_4 {t0 : Nat} {s0 : Int32} (o_t0 : ok11 S R t0) : hs_R scr (d + 1) 229 4 [some (.ref t0)] [.int s0] (S, I, L, R) = (if s0 = 0 then ((hs_C scr d 224 [.ref t0] (S, I, L, R)).bind fun o => hs_R scr (d + 1) 229 11 [some (.ref t0)] (o.1.toList ++ []) o.2) else hs_R scr (d + 1) 229 63 [some (.ref t0)] [] (S, I, L, R)) := Eq.trans (r_zne d229_4 rfl) (q_ite (Eq.trans (r_al_n d229_7 rfl) (r_cvE (as := []) (r := []) d229_8 c229_159 ow224 o_t0.2.1 np224.symm rfl (hs_fitE mL224 (Nat.le_of_ble_eq_true rfl)))) (rfl))
theorem b229_11 {t0 : Nat} {s0 : Int32} (o_t0 : ok11 S R t0) : hs_R scr (d + 1) 229 11 [some (.ref t0)] [.int s0] (S, I, L, R) = (if s0 = 0 then ((hs_C scr d 225 [.ref t0] (S, I, L, R)).bind fun o => hs_R scr (d + 1) 229 18 [some (.ref t0)] (o.1.toList ++ []) o.2) else hs_R scr (d + 1) 229 63 [some (.ref t0)] [] (S, I, L, R)) := Eq.trans (r_zne d229_11 rfl) (q_ite (Eq.trans (r_al_n d229_14 rfl) (r_cvE (as := []) (r := []) d229_15 c229_162 ow225 o_t0.2.1 np225.symm rfl (hs_fitE mL225 (Nat.le_of_ble_eq_true rfl)))) (rfl))
theorem b229_18 {t0 : Nat} {s0 : Int32} (o_t0 : ok11 S R t0) : hs_R scr (d + 1) 229 18 [some (.ref t0)] [.int s0] (S, I, L, R) = (if s0 = 0 then ((hs_C scr d 230 [.ref t0] (S, I, L, R)).bind fun o => hs_R scr (d + 1) 229 25 [some (.ref t0)] (o.1.toList ++ []) o.2) else hs_R scr (d + 1) 229 63 [some (.ref t0)] [] (S, I, L, R)) := Eq.trans (r_zne d229_18 rfl) (q_ite (Eq.trans (r_al_n d229_21 rfl) (r_cvE (as := []) (r := []) d229_22 c229_165 ow230 o_t0.2.1 np230.symm rfl (hs_fitE mL230 (Nat.le_of_ble_eq_true rfl)))) (rfl))
theorem b229_25 {t0 : Nat} {s0 : Int32} (o_t0 : ok11 S R t0) : hs_R scr (d + 1) 229 25 [some (.ref t0)] [.int s0] (S, I, L, R) = (if s0 = 0 then ((hs_C scr d 231 [.ref t0] (S, I, L, R)).bind fun o => hs_R scr (d + 1) 229 32 [some (.ref t0)] (o.1.toList ++ []) o.2) else hs_R scr (d + 1) 229 63 [some (.ref t0)] [] (S, I, L, R)) := Eq.trans (r_zne d229_25 rfl) (q_ite (Eq.trans (r_al_n d229_28 rfl) (r_cvE (as := []) (r := []) d229_29 c229_168 ow231 o_t0.2.1 np231.symm rfl (hs_fitE mL231 (Nat.le_of_ble_eq_true rfl)))) (rfl))
theorem b229_32 {t0 : Nat} {s0 : Int32} (o_t0 : ok11 S R t0) : hs_R scr (d + 1) 229 32 [some (.ref t0)] [.int s0] (S, I, L, R) = (if s0 = 0 then ((hs_C scr d 232 [.ref t0] (S, I, L, R)).bind fun o => hs_R scr (d + 1) 229 39 [some (.ref t0)] (o.1.toList ++ []) o.2) else hs_R scr (d + 1) 229 63 [some (.ref t0)] [] (S, I, L, R)) := Eq.trans (r_zne d229_32 rfl) (q_ite (Eq.trans (r_al_n d229_35 rfl) (r_cvE (as := []) (r := []) d229_36 c229_171 ow232 o_t0.2.1 np232.symm rfl (hs_fitE mL232 (Nat.le_of_ble_eq_true rfl)))) (rfl))
theorem b229_39 {t0 : Nat} {s0 : Int32} (o_t0 : ok11 S R t0) : hs_R scr (d + 1) 229 39 [some (.ref t0)] [.int s0] (S, I, L, R) = (if s0 = 0 then ((hs_C scr d 233 [.ref t0] (S, I, L, R)).bind fun o => hs_R scr (d + 1) 229 46 [some (.ref t0)] (o.1.toList ++ []) o.2) else hs_R scr (d + 1) 229 63 [some (.ref t0)] [] (S, I, L, R)) := Eq.trans (r_zne d229_39 rfl) (q_ite (Eq.trans (r_al_n d229_42 rfl) (r_cvE (as := []) (r := []) d229_43 c229_174 ow233 o_t0.2.1 np233.symm rfl (hs_fitE mL233 (Nat.le_of_ble_eq_true rfl)))) (rfl))
theorem b229_46 {t0 : Nat} {s0 : Int32} (o_t0 : ok11 S R t0) : hs_R scr (d + 1) 229 46 [some (.ref t0)] [.int s0] (S, I, L, R) = (if s0 = 0 then ((hs_C scr d 234 [.ref t0] (S, I, L, R)).bind fun o => hs_R scr (d + 1) 229 53 [some (.ref t0)] (o.1.toList ++ []) o.2) else hs_R scr (d + 1) 229 63 [some (.ref t0)] [] (S, I, L, R)) := Eq.trans (r_zne d229_46 rfl) (q_ite (Eq.trans (r_al_n d229_49 rfl) (r_cvE (as := []) (r := []) d229_50 c229_177 ow234 o_t0.2.1 np234.symm rfl (hs_fitE mL234 (Nat.le_of_ble_eq_true rfl)))) (rfl))
theorem b229_53 {t0 : Nat} {s0 : Int32} (o_t0 : ok11 S R t0) : hs_R scr (d + 1) 229 53 [some (.ref t0)] [.int s0] (S, I, L, R) = (if s0 = 0 then ((hs_C scr d 235 [.ref t0] (S, I, L, R)).bind fun o => hs_R scr (d + 1) 229 60 [some (.ref t0)] (o.1.toList ++ []) o.2) else hs_R scr (d + 1) 229 63 [some (.ref t0)] [] (S, I, L, R)) := Eq.trans (r_zne d229_53 rfl) (q_ite (Eq.trans (r_al_n d229_56 rfl) (r_cvE (as := []) (r := []) d229_57 c229_180 ow235 o_t0.2.1 np235.symm rfl (hs_fitE mL235 (Nat.le_of_ble_eq_true rfl)))) (rfl))
theorem b229_60 {t0 : Nat} {s0 : Int32} (o_t0 : ok11 S R t0) : hs_R scr (d + 1) 229 60 [some (.ref t0)] [.int s0] (S, I, L, R) = (if s0 = 0 then ((hs_C scr d 236 [.ref t0] (S, I, L, R)).bind fun o => hs_R scr (d + 1) 229 69 [some (.ref t0)] (o.1.toList ++ []) o.2) else hs_R scr (d + 1) 229 63 [some (.ref t0)] [] (S, I, L, R)) := Eq.trans (r_zeq d229_60 rfl) (q_ite (Eq.trans (r_al_n d229_65 rfl) (r_cvE (as := []) (r := []) d229_66 c229_183 ow236 o_t0.2.1 np236.symm rfl (hs_fitE mL236 (Nat.le_of_ble_eq_true rfl)))) (rfl))
theorem b229_63 {t0 : Nat}  : hs_R scr d 229 63 [some (.ref t0)] [] (S, I, L, R) = some (some (.int 1), (S, I, L, R)) := Eq.trans (r_ic d229_63 kI_1) ((r_rz d229_64 rt229).trans (if_pos (Or.inr rfl)))
theorem b229_69 {t0 : Nat} {s0 : Int32} (o_t0 : ok11 S R t0) : hs_R scr (d + 1) 229 69 [some (.ref t0)] [.int s0] (S, I, L, R) = (if s0 = 0 then ((hs_C scr d 237 [.ref t0] (S, I, L, R)).bind fun o => hs_R scr (d + 1) 229 76 [some (.ref t0)] (o.1.toList ++ []) o.2) else hs_R scr (d + 1) 229 93 [some (.ref t0)] [] (S, I, L, R)) := Eq.trans (r_zne d229_69 rfl) (q_ite (Eq.trans (r_al_n d229_72 rfl) (r_cvE (as := []) (r := []) d229_73 c229_186 ow237 o_t0.2.1 np237.symm rfl (hs_fitE mL237 (Nat.le_of_ble_eq_true rfl)))) (rfl))
theorem b229_76 {t0 : Nat} {s0 : Int32} (o_t0 : ok11 S R t0) : hs_R scr (d + 1) 229 76 [some (.ref t0)] [.int s0] (S, I, L, R) = (if s0 = 0 then ((hs_C scr d 238 [.ref t0] (S, I, L, R)).bind fun o => hs_R scr (d + 1) 229 83 [some (.ref t0)] (o.1.toList ++ []) o.2) else hs_R scr (d + 1) 229 93 [some (.ref t0)] [] (S, I, L, R)) := Eq.trans (r_zne d229_76 rfl) (q_ite (Eq.trans (r_al_n d229_79 rfl) (r_cvE (as := []) (r := []) d229_80 c229_189 ow238 o_t0.2.1 np238.symm rfl (hs_fitE mL238 (Nat.le_of_ble_eq_true rfl)))) (rfl))
theorem b229_83 {t0 : Nat} {s0 : Int32} (o_t0 : ok11 S R t0) : hs_R scr (d + 1) 229 83 [some (.ref t0)] [.int s0] (S, I, L, R) = (if s0 = 0 then ((hs_C scr d 239 [.ref t0] (S, I, L, R)).bind fun o => hs_R scr (d + 1) 229 90 [some (.ref t0)] (o.1.toList ++ []) o.2) else hs_R scr (d + 1) 229 93 [some (.ref t0)] [] (S, I, L, R)) := Eq.trans (r_zne d229_83 rfl) (q_ite (Eq.trans (r_al_n d229_86 rfl) (r_cvE (as := []) (r := []) d229_87 c229_192 ow239 o_t0.2.1 np239.symm rfl (hs_fitE mL239 (Nat.le_of_ble_eq_true rfl)))) (rfl))
theorem b229_90 {t0 : Nat} {s0 : Int32} (o_t0 : ok11 S R t0) : hs_R scr (d + 1) 229 90 [some (.ref t0)] [.int s0] (S, I, L, R) = (if s0 < 0 then ((hs_C scr d 240 [.ref t0] (S, I, L, R)).bind fun o => hs_R scr (d + 1) 229 99 [some (.ref t0)] (o.1.toList ++ []) o.2) else hs_R scr (d + 1) 229 93 [some (.ref t0)] [] (S, I, L, R)) := Eq.trans (r_zlt d229_90 rfl) (q_ite (Eq.trans (r_al_n d229_95 rfl) (r_cvE (as := []) (r := []) d229_96 c229_152 ow240 o_t0.2.1 np240.symm rfl (hs_fitE mL240 (Nat.le_of_ble_eq_true rfl)))) (rfl))
theorem b229_93 {t0 : Nat}  : hs_R scr d 229 93 [some (.ref t0)] [] (S, I, L, R) = some (some (.int 1), (S, I, L, R)) := Eq.trans (r_ic d229_93 kI_1) ((r_rz d229_94 rt229).trans (if_pos (Or.inr rfl)))
theorem b229_99 {t0 : Nat} {s0 : Int32} (o_t0 : ok11 S R t0) : hs_R scr (d + 1) 229 99 [some (.ref t0)] [.int s0] (S, I, L, R) = (if (0 : Int32) ≤ s0 then hs_R scr (d + 1) 229 116 [some (.ref t0)] [] (S, I, L, R) else ((hs_C scr d 241 [.ref t0] (S, I, L, R)).bind fun o => hs_R scr (d + 1) 229 106 [some (.ref t0)] (o.1.toList ++ []) o.2)) := Eq.trans (r_zge d229_99 rfl) (q_ite (rfl) (Eq.trans (r_al_n d229_102 rfl) (r_cvE (as := []) (r := []) d229_103 c229_195 ow241 o_t0.2.1 np241.symm rfl (hs_fitE mL241 (Nat.le_of_ble_eq_true rfl)))))
theorem b229_106 {t0 : Nat} {s0 : Int32} (o_t0 : ok11 S R t0) : hs_R scr (d + 1) 229 106 [some (.ref t0)] [.int s0] (S, I, L, R) = (if (0 : Int32) ≤ s0 then hs_R scr (d + 1) 229 116 [some (.ref t0)] [] (S, I, L, R) else ((hs_C scr d 243 [.ref t0] (S, I, L, R)).bind fun o => hs_R scr (d + 1) 229 113 [some (.ref t0)] (o.1.toList ++ []) o.2)) := Eq.trans (r_zge d229_106 rfl) (q_ite (rfl) (Eq.trans (r_al_n d229_109 rfl) (r_cvE (as := []) (r := []) d229_110 c229_198 ow243 o_t0.2.1 np243.symm rfl (hs_fitE mL243 (Nat.le_of_ble_eq_true rfl)))))
theorem b229_113 {t0 : Nat} {s0 : Int32}  : hs_R scr d 229 113 [some (.ref t0)] [.int s0] (S, I, L, R) = (if s0 = 0 then hs_R scr d 229 121 [some (.ref t0)] [.int 0] (S, I, L, R) else hs_R scr d 229 116 [some (.ref t0)] [] (S, I, L, R)) := Eq.trans (r_zeq d229_113 rfl) (q_ite (Eq.trans (r_ic d229_120 kI_0) (rfl)) (rfl))
theorem b229_116 {t0 : Nat}  : hs_R scr d 229 116 [some (.ref t0)] [] (S, I, L, R) = hs_R scr d 229 121 [some (.ref t0)] [.int 1] (S, I, L, R) := Eq.trans (r_ic d229_116 kI_1) (Eq.trans (r_goto d229_117 rfl) (rfl))
theorem b229_121 {t0 : Nat} {s0 : Int32}  : hs_R scr d 229 121 [some (.ref t0)] [.int s0] (S, I, L, R) = (if s0 = 0 ∨ s0 = 1 then some (some (.int s0), (S, I, L, R)) else none) := r_rz d229_121 rt229
theorem e230 {t0 : Nat} : hs_C scr d 230 [.ref t0] h = hs_R scr d 230 0 [some (.ref t0)] [] h := by rw [hs_C, mL230]; rfl
theorem b230_0 {t0 : Nat}  : hs_R scr (d + 1) 230 0 [some (.ref t0)] [] (S, I, L, R) = ((hs_C scr d 216 [.int 103, .int 114, .int 111, .int 119, .int 115, .int 0] (S, I, L, R)).bind fun o => hs_R scr (d + 1) 230 15 [some (.ref t0)] (o.1.toList ++ [.ref t0]) o.2) := Eq.trans (r_al_n d230_0 rfl) (Eq.trans (r_bp d230_1 kB_103) (Eq.trans (r_bp d230_3 kB_114) (Eq.trans (r_bp d230_5 kB_111) (Eq.trans (r_bp d230_7 kB_119) (Eq.trans (r_bp d230_9 kB_115) (Eq.trans (r_ic d230_11 kI_0) (r_cs (as := [.int 103, .int 114, .int 111, .int 119, .int 115, .int 0]) (r := [.ref t0]) d230_12 c230_140 np216.symm rfl (hs_fitE mL216 (Nat.le_of_ble_eq_true rfl)))))))))
theorem b230_15 {t0 u0 : Nat} {v1 : Int64} (o_u0 : ok11 S R u0) : hs_R scr (d + 1) 230 15 [some (.ref t0)] [.long v1, .ref u0] (S, I, L, R) = ((hs_C scr d 217 [.ref u0, .long v1] (S, I, L, R)).bind fun o => hs_R scr (d + 1) 230 18 [some (.ref t0)] (o.1.toList ++ []) o.2) := r_cvE (as := [.long v1]) (r := []) d230_15 c230_144 ow217 o_u0.2.1 np217.symm rfl (hs_fitE mL217 (Nat.le_of_ble_eq_true rfl))
theorem b230_18 {t0 : Nat} {s0 : Int32}  : hs_R scr d 230 18 [some (.ref t0)] [.int s0] (S, I, L, R) = (if s0 = 0 ∨ s0 = 1 then some (some (.int s0), (S, I, L, R)) else none) := r_rz d230_18 rt230
theorem e231 {t0 : Nat} : hs_C scr d 231 [.ref t0] h = hs_R scr d 231 0 [some (.ref t0)] [] h := by rw [hs_C, mL231]; rfl
theorem b231_0 {t0 : Nat}  : hs_R scr (d + 1) 231 0 [some (.ref t0)] [] (S, I, L, R) = ((hs_C scr d 216 [.int 112, .int 97, .int 114, .int 116, .int 121, .int 0] (S, I, L, R)).bind fun o => hs_R scr (d + 1) 231 15 [some (.ref t0)] (o.1.toList ++ [.ref t0]) o.2) := Eq.trans (r_al_n d231_0 rfl) (Eq.trans (r_bp d231_1 kB_112) (Eq.trans (r_bp d231_3 kB_97) (Eq.trans (r_bp d231_5 kB_114) (Eq.trans (r_bp d231_7 kB_116) (Eq.trans (r_bp d231_9 kB_121) (Eq.trans (r_ic d231_11 kI_0) (r_cs (as := [.int 112, .int 97, .int 114, .int 116, .int 121, .int 0]) (r := [.ref t0]) d231_12 c231_140 np216.symm rfl (hs_fitE mL216 (Nat.le_of_ble_eq_true rfl)))))))))
theorem b231_15 {t0 u0 : Nat} {v1 : Int64} (o_u0 : ok11 S R u0) : hs_R scr (d + 1) 231 15 [some (.ref t0)] [.long v1, .ref u0] (S, I, L, R) = ((hs_C scr d 217 [.ref u0, .long v1] (S, I, L, R)).bind fun o => hs_R scr (d + 1) 231 18 [some (.ref t0)] (o.1.toList ++ []) o.2) := r_cvE (as := [.long v1]) (r := []) d231_15 c231_144 ow217 o_u0.2.1 np217.symm rfl (hs_fitE mL217 (Nat.le_of_ble_eq_true rfl))
theorem b231_18 {t0 : Nat} {s0 : Int32}  : hs_R scr d 231 18 [some (.ref t0)] [.int s0] (S, I, L, R) = (if s0 = 0 ∨ s0 = 1 then some (some (.int s0), (S, I, L, R)) else none) := r_rz d231_18 rt231
theorem e232 {t0 : Nat} : hs_C scr d 232 [.ref t0] h = hs_R scr d 232 0 [some (.ref t0)] [] h := by rw [hs_C, mL232]; rfl
theorem b232_0 {t0 : Nat}  : hs_R scr (d + 1) 232 0 [some (.ref t0)] [] (S, I, L, R) = ((hs_C scr d 216 [.int 115, .int 101, .int 97, .int 116, .int 115, .int 0] (S, I, L, R)).bind fun o => hs_R scr (d + 1) 232 15 [some (.ref t0)] (o.1.toList ++ [.ref t0]) o.2) := Eq.trans (r_al_n d232_0 rfl) (Eq.trans (r_bp d232_1 kB_115) (Eq.trans (r_bp d232_3 kB_101) (Eq.trans (r_bp d232_5 kB_97) (Eq.trans (r_bp d232_7 kB_116) (Eq.trans (r_bp d232_9 kB_115) (Eq.trans (r_ic d232_11 kI_0) (r_cs (as := [.int 115, .int 101, .int 97, .int 116, .int 115, .int 0]) (r := [.ref t0]) d232_12 c232_140 np216.symm rfl (hs_fitE mL216 (Nat.le_of_ble_eq_true rfl)))))))))
theorem b232_15 {t0 u0 : Nat} {v1 : Int64} (o_u0 : ok11 S R u0) : hs_R scr (d + 1) 232 15 [some (.ref t0)] [.long v1, .ref u0] (S, I, L, R) = ((hs_C scr d 217 [.ref u0, .long v1] (S, I, L, R)).bind fun o => hs_R scr (d + 1) 232 18 [some (.ref t0)] (o.1.toList ++ []) o.2) := r_cvE (as := [.long v1]) (r := []) d232_15 c232_144 ow217 o_u0.2.1 np217.symm rfl (hs_fitE mL217 (Nat.le_of_ble_eq_true rfl))
theorem b232_18 {t0 : Nat} {s0 : Int32}  : hs_R scr d 232 18 [some (.ref t0)] [.int s0] (S, I, L, R) = (if s0 = 0 ∨ s0 = 1 then some (some (.int s0), (S, I, L, R)) else none) := r_rz d232_18 rt232
theorem e233 {t0 : Nat} : hs_C scr d 233 [.ref t0] h = hs_R scr d 233 0 [some (.ref t0)] [] h := by rw [hs_C, mL233]; rfl
theorem b233_0 {t0 : Nat}  : hs_R scr (d + 1) 233 0 [some (.ref t0)] [] (S, I, L, R) = ((hs_C scr d 216 [.int 119, .int 97, .int 110, .int 116, .int 115, .int 0] (S, I, L, R)).bind fun o => hs_R scr (d + 1) 233 15 [some (.ref t0)] (o.1.toList ++ [.ref t0]) o.2) := Eq.trans (r_al_n d233_0 rfl) (Eq.trans (r_bp d233_1 kB_119) (Eq.trans (r_bp d233_3 kB_97) (Eq.trans (r_bp d233_5 kB_110) (Eq.trans (r_bp d233_7 kB_116) (Eq.trans (r_bp d233_9 kB_115) (Eq.trans (r_ic d233_11 kI_0) (r_cs (as := [.int 119, .int 97, .int 110, .int 116, .int 115, .int 0]) (r := [.ref t0]) d233_12 c233_140 np216.symm rfl (hs_fitE mL216 (Nat.le_of_ble_eq_true rfl)))))))))
theorem b233_15 {t0 u0 : Nat} {v1 : Int64} (o_u0 : ok11 S R u0) : hs_R scr (d + 1) 233 15 [some (.ref t0)] [.long v1, .ref u0] (S, I, L, R) = ((hs_C scr d 217 [.ref u0, .long v1] (S, I, L, R)).bind fun o => hs_R scr (d + 1) 233 18 [some (.ref t0)] (o.1.toList ++ []) o.2) := r_cvE (as := [.long v1]) (r := []) d233_15 c233_144 ow217 o_u0.2.1 np217.symm rfl (hs_fitE mL217 (Nat.le_of_ble_eq_true rfl))
theorem b233_18 {t0 : Nat} {s0 : Int32}  : hs_R scr d 233 18 [some (.ref t0)] [.int s0] (S, I, L, R) = (if s0 = 0 ∨ s0 = 1 then some (some (.int s0), (S, I, L, R)) else none) := r_rz d233_18 rt233
theorem e234 {t0 : Nat} : hs_C scr d 234 [.ref t0] h = hs_R scr d 234 0 [some (.ref t0)] [] h := by rw [hs_C, mL234]; rfl
theorem b234_0 {t0 : Nat}  : hs_R scr (d + 1) 234 0 [some (.ref t0)] [] (S, I, L, R) = ((hs_C scr d 216 [.int 114, .int 117, .int 108, .int 101, .int 114, .int 0] (S, I, L, R)).bind fun o => hs_R scr (d + 1) 234 15 [some (.ref t0)] (o.1.toList ++ [.ref t0]) o.2) := Eq.trans (r_al_n d234_0 rfl) (Eq.trans (r_bp d234_1 kB_114) (Eq.trans (r_bp d234_3 kB_117) (Eq.trans (r_bp d234_5 kB_108) (Eq.trans (r_bp d234_7 kB_101) (Eq.trans (r_bp d234_9 kB_114) (Eq.trans (r_ic d234_11 kI_0) (r_cs (as := [.int 114, .int 117, .int 108, .int 101, .int 114, .int 0]) (r := [.ref t0]) d234_12 c234_140 np216.symm rfl (hs_fitE mL216 (Nat.le_of_ble_eq_true rfl)))))))))
theorem b234_15 {t0 u0 : Nat} {v1 : Int64} (o_u0 : ok11 S R u0) : hs_R scr (d + 1) 234 15 [some (.ref t0)] [.long v1, .ref u0] (S, I, L, R) = ((hs_C scr d 217 [.ref u0, .long v1] (S, I, L, R)).bind fun o => hs_R scr (d + 1) 234 18 [some (.ref t0)] (o.1.toList ++ []) o.2) := r_cvE (as := [.long v1]) (r := []) d234_15 c234_144 ow217 o_u0.2.1 np217.symm rfl (hs_fitE mL217 (Nat.le_of_ble_eq_true rfl))
theorem b234_18 {t0 : Nat} {s0 : Int32}  : hs_R scr d 234 18 [some (.ref t0)] [.int s0] (S, I, L, R) = (if s0 = 0 ∨ s0 = 1 then some (some (.int s0), (S, I, L, R)) else none) := r_rz d234_18 rt234
theorem e235 {t0 : Nat} : hs_C scr d 235 [.ref t0] h = hs_R scr d 235 0 [some (.ref t0)] [] h := by rw [hs_C, mL235]; rfl
theorem b235_0 {t0 : Nat}  : hs_R scr (d + 1) 235 0 [some (.ref t0)] [] (S, I, L, R) = ((hs_C scr d 216 [.int 108, .int 105, .int 112, .int 0, .int 0, .int 0] (S, I, L, R)).bind fun o => hs_R scr (d + 1) 235 13 [some (.ref t0)] (o.1.toList ++ [.ref t0]) o.2) := Eq.trans (r_al_n d235_0 rfl) (Eq.trans (r_bp d235_1 kB_108) (Eq.trans (r_bp d235_3 kB_105) (Eq.trans (r_bp d235_5 kB_112) (Eq.trans (r_ic d235_7 kI_0) (Eq.trans (r_ic d235_8 kI_0) (Eq.trans (r_ic d235_9 kI_0) (r_cs (as := [.int 108, .int 105, .int 112, .int 0, .int 0, .int 0]) (r := [.ref t0]) d235_10 c235_140 np216.symm rfl (hs_fitE mL216 (Nat.le_of_ble_eq_true rfl)))))))))
theorem b235_13 {t0 u0 : Nat} {v1 : Int64} (o_u0 : ok11 S R u0) : hs_R scr (d + 1) 235 13 [some (.ref t0)] [.long v1, .ref u0] (S, I, L, R) = ((hs_C scr d 217 [.ref u0, .long v1] (S, I, L, R)).bind fun o => hs_R scr (d + 1) 235 16 [some (.ref t0)] (o.1.toList ++ []) o.2) := r_cvE (as := [.long v1]) (r := []) d235_13 c235_144 ow217 o_u0.2.1 np217.symm rfl (hs_fitE mL217 (Nat.le_of_ble_eq_true rfl))
theorem b235_16 {t0 : Nat} {s0 : Int32}  : hs_R scr d 235 16 [some (.ref t0)] [.int s0] (S, I, L, R) = (if s0 = 0 ∨ s0 = 1 then some (some (.int s0), (S, I, L, R)) else none) := r_rz d235_16 rt235
theorem e236 {t0 : Nat} : hs_C scr d 236 [.ref t0] h = hs_R scr d 236 0 [some (.ref t0)] [] h := by rw [hs_C, mL236]; rfl
theorem b236_0 {t0 : Nat}  : hs_R scr (d + 1) 236 0 [some (.ref t0)] [] (S, I, L, R) = ((hs_C scr d 216 [.int 108, .int 111, .int 111, .int 107, .int 0, .int 0] (S, I, L, R)).bind fun o => hs_R scr (d + 1) 236 14 [some (.ref t0)] (o.1.toList ++ [.ref t0]) o.2) := Eq.trans (r_al_n d236_0 rfl) (Eq.trans (r_bp d236_1 kB_108) (Eq.trans (r_bp d236_3 kB_111) (Eq.trans (r_bp d236_5 kB_111) (Eq.trans (r_bp d236_7 kB_107) (Eq.trans (r_ic d236_9 kI_0) (Eq.trans (r_ic d236_10 kI_0) (r_cs (as := [.int 108, .int 111, .int 111, .int 107, .int 0, .int 0]) (r := [.ref t0]) d236_11 c236_140 np216.symm rfl (hs_fitE mL216 (Nat.le_of_ble_eq_true rfl)))))))))
theorem b236_14 {t0 u0 : Nat} {v1 : Int64} (o_u0 : ok11 S R u0) : hs_R scr (d + 1) 236 14 [some (.ref t0)] [.long v1, .ref u0] (S, I, L, R) = ((hs_C scr d 217 [.ref u0, .long v1] (S, I, L, R)).bind fun o => hs_R scr (d + 1) 236 17 [some (.ref t0)] (o.1.toList ++ []) o.2) := r_cvE (as := [.long v1]) (r := []) d236_14 c236_144 ow217 o_u0.2.1 np217.symm rfl (hs_fitE mL217 (Nat.le_of_ble_eq_true rfl))
theorem b236_17 {t0 : Nat} {s0 : Int32}  : hs_R scr d 236 17 [some (.ref t0)] [.int s0] (S, I, L, R) = (if s0 = 0 ∨ s0 = 1 then some (some (.int s0), (S, I, L, R)) else none) := r_rz d236_17 rt236
theorem e237 {t0 : Nat} : hs_C scr d 237 [.ref t0] h = hs_R scr d 237 0 [some (.ref t0)] [] h := by rw [hs_C, mL237]; rfl
theorem b237_0 {t0 : Nat}  : hs_R scr (d + 1) 237 0 [some (.ref t0)] [] (S, I, L, R) = ((hs_C scr d 216 [.int 98, .int 97, .int 114, .int 98, .int 101, .int 114] (S, I, L, R)).bind fun o => hs_R scr (d + 1) 237 16 [some (.ref t0)] (o.1.toList ++ [.ref t0]) o.2) := Eq.trans (r_al_n d237_0 rfl) (Eq.trans (r_bp d237_1 kB_98) (Eq.trans (r_bp d237_3 kB_97) (Eq.trans (r_bp d237_5 kB_114) (Eq.trans (r_bp d237_7 kB_98) (Eq.trans (r_bp d237_9 kB_101) (Eq.trans (r_bp d237_11 kB_114) (r_cs (as := [.int 98, .int 97, .int 114, .int 98, .int 101, .int 114]) (r := [.ref t0]) d237_13 c237_140 np216.symm rfl (hs_fitE mL216 (Nat.le_of_ble_eq_true rfl)))))))))
theorem b237_16 {t0 u0 : Nat} {v1 : Int64} (o_u0 : ok11 S R u0) : hs_R scr (d + 1) 237 16 [some (.ref t0)] [.long v1, .ref u0] (S, I, L, R) = ((hs_C scr d 217 [.ref u0, .long v1] (S, I, L, R)).bind fun o => hs_R scr (d + 1) 237 19 [some (.ref t0)] (o.1.toList ++ []) o.2) := r_cvE (as := [.long v1]) (r := []) d237_16 c237_144 ow217 o_u0.2.1 np217.symm rfl (hs_fitE mL217 (Nat.le_of_ble_eq_true rfl))
theorem b237_19 {t0 : Nat} {s0 : Int32}  : hs_R scr d 237 19 [some (.ref t0)] [.int s0] (S, I, L, R) = (if s0 = 0 ∨ s0 = 1 then some (some (.int s0), (S, I, L, R)) else none) := r_rz d237_19 rt237
theorem e238 {t0 : Nat} : hs_C scr d 238 [.ref t0] h = hs_R scr d 238 0 [some (.ref t0)] [] h := by rw [hs_C, mL238]; rfl
theorem b238_0 {t0 : Nat}  : hs_R scr (d + 1) 238 0 [some (.ref t0)] [] (S, I, L, R) = ((hs_C scr d 216 [.int 112, .int 97, .int 105, .int 114, .int 0, .int 0] (S, I, L, R)).bind fun o => hs_R scr (d + 1) 238 14 [some (.ref t0)] (o.1.toList ++ [.ref t0]) o.2) := Eq.trans (r_al_n d238_0 rfl) (Eq.trans (r_bp d238_1 kB_112) (Eq.trans (r_bp d238_3 kB_97) (Eq.trans (r_bp d238_5 kB_105) (Eq.trans (r_bp d238_7 kB_114) (Eq.trans (r_ic d238_9 kI_0) (Eq.trans (r_ic d238_10 kI_0) (r_cs (as := [.int 112, .int 97, .int 105, .int 114, .int 0, .int 0]) (r := [.ref t0]) d238_11 c238_140 np216.symm rfl (hs_fitE mL216 (Nat.le_of_ble_eq_true rfl)))))))))
theorem b238_14 {t0 u0 : Nat} {v1 : Int64} (o_u0 : ok11 S R u0) : hs_R scr (d + 1) 238 14 [some (.ref t0)] [.long v1, .ref u0] (S, I, L, R) = ((hs_C scr d 217 [.ref u0, .long v1] (S, I, L, R)).bind fun o => hs_R scr (d + 1) 238 17 [some (.ref t0)] (o.1.toList ++ []) o.2) := r_cvE (as := [.long v1]) (r := []) d238_14 c238_144 ow217 o_u0.2.1 np217.symm rfl (hs_fitE mL217 (Nat.le_of_ble_eq_true rfl))
theorem b238_17 {t0 : Nat} {s0 : Int32}  : hs_R scr d 238 17 [some (.ref t0)] [.int s0] (S, I, L, R) = (if s0 = 0 ∨ s0 = 1 then some (some (.int s0), (S, I, L, R)) else none) := r_rz d238_17 rt238
theorem e239 {t0 : Nat} : hs_C scr d 239 [.ref t0] h = hs_R scr d 239 0 [some (.ref t0)] [] h := by rw [hs_C, mL239]; rfl
theorem b239_0 {t0 : Nat}  : hs_R scr (d + 1) 239 0 [some (.ref t0)] [] (S, I, L, R) = ((hs_C scr d 216 [.int 100, .int 111, .int 119, .int 110, .int 0, .int 0] (S, I, L, R)).bind fun o => hs_R scr (d + 1) 239 14 [some (.ref t0)] (o.1.toList ++ [.ref t0]) o.2) := Eq.trans (r_al_n d239_0 rfl) (Eq.trans (r_bp d239_1 kB_100) (Eq.trans (r_bp d239_3 kB_111) (Eq.trans (r_bp d239_5 kB_119) (Eq.trans (r_bp d239_7 kB_110) (Eq.trans (r_ic d239_9 kI_0) (Eq.trans (r_ic d239_10 kI_0) (r_cs (as := [.int 100, .int 111, .int 119, .int 110, .int 0, .int 0]) (r := [.ref t0]) d239_11 c239_140 np216.symm rfl (hs_fitE mL216 (Nat.le_of_ble_eq_true rfl)))))))))
theorem b239_14 {t0 u0 : Nat} {v1 : Int64} (o_u0 : ok11 S R u0) : hs_R scr (d + 1) 239 14 [some (.ref t0)] [.long v1, .ref u0] (S, I, L, R) = ((hs_C scr d 217 [.ref u0, .long v1] (S, I, L, R)).bind fun o => hs_R scr (d + 1) 239 17 [some (.ref t0)] (o.1.toList ++ []) o.2) := r_cvE (as := [.long v1]) (r := []) d239_14 c239_144 ow217 o_u0.2.1 np217.symm rfl (hs_fitE mL217 (Nat.le_of_ble_eq_true rfl))
theorem b239_17 {t0 : Nat} {s0 : Int32}  : hs_R scr (d + 1) 239 17 [some (.ref t0)] [.int s0] (S, I, L, R) = (if s0 = 0 then ((hs_C scr d 216 [.int 102, .int 108, .int 97, .int 116, .int 0, .int 0] (S, I, L, R)).bind fun o => hs_R scr (d + 1) 239 36 [some (.ref t0)] (o.1.toList ++ [.ref t0]) o.2) else some (some (.int 0), (S, I, L, R))) := Eq.trans (r_zeq d239_17 rfl) (q_ite (Eq.trans (r_al_n d239_22 rfl) (Eq.trans (r_bp d239_23 kB_102) (Eq.trans (r_bp d239_25 kB_108) (Eq.trans (r_bp d239_27 kB_97) (Eq.trans (r_bp d239_29 kB_116) (Eq.trans (r_ic d239_31 kI_0) (Eq.trans (r_ic d239_32 kI_0) (r_cs (as := [.int 102, .int 108, .int 97, .int 116, .int 0, .int 0]) (r := [.ref t0]) d239_33 c239_140 np216.symm rfl (hs_fitE mL216 (Nat.le_of_ble_eq_true rfl)))))))))) (Eq.trans (r_ic d239_20 kI_0) (r_ri d239_21 rt239)))
theorem b239_36 {t0 u0 : Nat} {v1 : Int64} (o_u0 : ok11 S R u0) : hs_R scr (d + 1) 239 36 [some (.ref t0)] [.long v1, .ref u0] (S, I, L, R) = ((hs_C scr d 217 [.ref u0, .long v1] (S, I, L, R)).bind fun o => hs_R scr (d + 1) 239 39 [some (.ref t0)] (o.1.toList ++ []) o.2) := r_cvE (as := [.long v1]) (r := []) d239_36 c239_144 ow217 o_u0.2.1 np217.symm rfl (hs_fitE mL217 (Nat.le_of_ble_eq_true rfl))
theorem b239_39 {t0 : Nat} {s0 : Int32}  : hs_R scr (d + 1) 239 39 [some (.ref t0)] [.int s0] (S, I, L, R) = (if s0 = 0 then ((hs_C scr d 216 [.int 117, .int 112, .int 0, .int 0, .int 0, .int 0] (S, I, L, R)).bind fun o => hs_R scr (d + 1) 239 56 [some (.ref t0)] (o.1.toList ++ [.ref t0]) o.2) else some (some (.int 1), (S, I, L, R))) := Eq.trans (r_zeq d239_39 rfl) (q_ite (Eq.trans (r_al_n d239_44 rfl) (Eq.trans (r_bp d239_45 kB_117) (Eq.trans (r_bp d239_47 kB_112) (Eq.trans (r_ic d239_49 kI_0) (Eq.trans (r_ic d239_50 kI_0) (Eq.trans (r_ic d239_51 kI_0) (Eq.trans (r_ic d239_52 kI_0) (r_cs (as := [.int 117, .int 112, .int 0, .int 0, .int 0, .int 0]) (r := [.ref t0]) d239_53 c239_140 np216.symm rfl (hs_fitE mL216 (Nat.le_of_ble_eq_true rfl)))))))))) (Eq.trans (r_ic d239_42 kI_1) (r_ri d239_43 rt239)))
theorem b239_56 {t0 u0 : Nat} {v1 : Int64} (o_u0 : ok11 S R u0) : hs_R scr (d + 1) 239 56 [some (.ref t0)] [.long v1, .ref u0] (S, I, L, R) = ((hs_C scr d 217 [.ref u0, .long v1] (S, I, L, R)).bind fun o => hs_R scr (d + 1) 239 59 [some (.ref t0)] (o.1.toList ++ []) o.2) := r_cvE (as := [.long v1]) (r := []) d239_56 c239_144 ow217 o_u0.2.1 np217.symm rfl (hs_fitE mL217 (Nat.le_of_ble_eq_true rfl))
theorem b239_59 {t0 : Nat} {s0 : Int32}  : hs_R scr (d + 1) 239 59 [some (.ref t0)] [.int s0] (S, I, L, R) = (if s0 = 0 then ((hs_C scr d 216 [.int 101, .int 105, .int 116, .int 104, .int 101, .int 114] (S, I, L, R)).bind fun o => hs_R scr (d + 1) 239 80 [some (.ref t0)] (o.1.toList ++ [.ref t0]) o.2) else some (some (.int 2), (S, I, L, R))) := Eq.trans (r_zeq d239_59 rfl) (q_ite (Eq.trans (r_al_n d239_64 rfl) (Eq.trans (r_bp d239_65 kB_101) (Eq.trans (r_bp d239_67 kB_105) (Eq.trans (r_bp d239_69 kB_116) (Eq.trans (r_bp d239_71 kB_104) (Eq.trans (r_bp d239_73 kB_101) (Eq.trans (r_bp d239_75 kB_114) (r_cs (as := [.int 101, .int 105, .int 116, .int 104, .int 101, .int 114]) (r := [.ref t0]) d239_77 c239_140 np216.symm rfl (hs_fitE mL216 (Nat.le_of_ble_eq_true rfl)))))))))) (Eq.trans (r_ic d239_62 kI_2) (r_ri d239_63 rt239)))
theorem b239_80 {t0 u0 : Nat} {v1 : Int64} (o_u0 : ok11 S R u0) : hs_R scr (d + 1) 239 80 [some (.ref t0)] [.long v1, .ref u0] (S, I, L, R) = ((hs_C scr d 217 [.ref u0, .long v1] (S, I, L, R)).bind fun o => hs_R scr (d + 1) 239 83 [some (.ref t0)] (o.1.toList ++ []) o.2) := r_cvE (as := [.long v1]) (r := []) d239_80 c239_144 ow217 o_u0.2.1 np217.symm rfl (hs_fitE mL217 (Nat.le_of_ble_eq_true rfl))
theorem b239_83 {t0 : Nat} {s0 : Int32}  : hs_R scr d 239 83 [some (.ref t0)] [.int s0] (S, I, L, R) = (if s0 = 0 then hs_R scr d 239 91 [some (.ref t0)] [.int (-1)] (S, I, L, R) else hs_R scr d 239 91 [some (.ref t0)] [.int 3] (S, I, L, R)) := Eq.trans (r_zeq d239_83 rfl) (q_ite (Eq.trans (r_ic d239_90 kI_m1) (rfl)) (Eq.trans (r_ic d239_86 kI_3) (Eq.trans (r_goto d239_87 rfl) (rfl))))
theorem b239_91 {t0 : Nat} {s0 : Int32}  : hs_R scr d 239 91 [some (.ref t0)] [.int s0] (S, I, L, R) = some (some (.int s0), (S, I, L, R)) := r_ri d239_91 rt239
theorem e240 {t0 : Nat} : hs_C scr d 240 [.ref t0] h = hs_R scr d 240 0 [some (.ref t0)] [] h := by rw [hs_C, mL240]; rfl
theorem b240_0 {t0 : Nat}  : hs_R scr (d + 1) 240 0 [some (.ref t0)] [] (S, I, L, R) = ((hs_C scr d 216 [.int 100, .int 97, .int 121, .int 0, .int 0, .int 0] (S, I, L, R)).bind fun o => hs_R scr (d + 1) 240 13 [some (.ref t0)] (o.1.toList ++ [.ref t0]) o.2) := Eq.trans (r_al_n d240_0 rfl) (Eq.trans (r_bp d240_1 kB_100) (Eq.trans (r_bp d240_3 kB_97) (Eq.trans (r_bp d240_5 kB_121) (Eq.trans (r_ic d240_7 kI_0) (Eq.trans (r_ic d240_8 kI_0) (Eq.trans (r_ic d240_9 kI_0) (r_cs (as := [.int 100, .int 97, .int 121, .int 0, .int 0, .int 0]) (r := [.ref t0]) d240_10 c240_140 np216.symm rfl (hs_fitE mL216 (Nat.le_of_ble_eq_true rfl)))))))))
theorem b240_13 {t0 u0 : Nat} {v1 : Int64} (o_u0 : ok11 S R u0) : hs_R scr (d + 1) 240 13 [some (.ref t0)] [.long v1, .ref u0] (S, I, L, R) = ((hs_C scr d 217 [.ref u0, .long v1] (S, I, L, R)).bind fun o => hs_R scr (d + 1) 240 16 [some (.ref t0)] (o.1.toList ++ []) o.2) := r_cvE (as := [.long v1]) (r := []) d240_13 c240_144 ow217 o_u0.2.1 np217.symm rfl (hs_fitE mL217 (Nat.le_of_ble_eq_true rfl))
theorem b240_16 {t0 : Nat} {s0 : Int32}  : hs_R scr (d + 1) 240 16 [some (.ref t0)] [.int s0] (S, I, L, R) = (if s0 = 0 then ((hs_C scr d 216 [.int 112, .int 101, .int 97, .int 99, .int 101, .int 0] (S, I, L, R)).bind fun o => hs_R scr (d + 1) 240 36 [some (.ref t0)] (o.1.toList ++ [.ref t0]) o.2) else some (some (.int 0), (S, I, L, R))) := Eq.trans (r_zeq d240_16 rfl) (q_ite (Eq.trans (r_al_n d240_21 rfl) (Eq.trans (r_bp d240_22 kB_112) (Eq.trans (r_bp d240_24 kB_101) (Eq.trans (r_bp d240_26 kB_97) (Eq.trans (r_bp d240_28 kB_99) (Eq.trans (r_bp d240_30 kB_101) (Eq.trans (r_ic d240_32 kI_0) (r_cs (as := [.int 112, .int 101, .int 97, .int 99, .int 101, .int 0]) (r := [.ref t0]) d240_33 c240_140 np216.symm rfl (hs_fitE mL216 (Nat.le_of_ble_eq_true rfl)))))))))) (Eq.trans (r_ic d240_19 kI_0) (r_ri d240_20 rt240)))
theorem b240_36 {t0 u0 : Nat} {v1 : Int64} (o_u0 : ok11 S R u0) : hs_R scr (d + 1) 240 36 [some (.ref t0)] [.long v1, .ref u0] (S, I, L, R) = ((hs_C scr d 217 [.ref u0, .long v1] (S, I, L, R)).bind fun o => hs_R scr (d + 1) 240 39 [some (.ref t0)] (o.1.toList ++ []) o.2) := r_cvE (as := [.long v1]) (r := []) d240_36 c240_144 ow217 o_u0.2.1 np217.symm rfl (hs_fitE mL217 (Nat.le_of_ble_eq_true rfl))
theorem b240_39 {t0 : Nat} {s0 : Int32}  : hs_R scr (d + 1) 240 39 [some (.ref t0)] [.int s0] (S, I, L, R) = (if s0 = 0 then ((hs_C scr d 216 [.int 119, .int 97, .int 114, .int 0, .int 0, .int 0] (S, I, L, R)).bind fun o => hs_R scr (d + 1) 240 57 [some (.ref t0)] (o.1.toList ++ [.ref t0]) o.2) else some (some (.int 1), (S, I, L, R))) := Eq.trans (r_zeq d240_39 rfl) (q_ite (Eq.trans (r_al_n d240_44 rfl) (Eq.trans (r_bp d240_45 kB_119) (Eq.trans (r_bp d240_47 kB_97) (Eq.trans (r_bp d240_49 kB_114) (Eq.trans (r_ic d240_51 kI_0) (Eq.trans (r_ic d240_52 kI_0) (Eq.trans (r_ic d240_53 kI_0) (r_cs (as := [.int 119, .int 97, .int 114, .int 0, .int 0, .int 0]) (r := [.ref t0]) d240_54 c240_140 np216.symm rfl (hs_fitE mL216 (Nat.le_of_ble_eq_true rfl)))))))))) (Eq.trans (r_ic d240_42 kI_1) (r_ri d240_43 rt240)))
theorem b240_57 {t0 u0 : Nat} {v1 : Int64} (o_u0 : ok11 S R u0) : hs_R scr (d + 1) 240 57 [some (.ref t0)] [.long v1, .ref u0] (S, I, L, R) = ((hs_C scr d 217 [.ref u0, .long v1] (S, I, L, R)).bind fun o => hs_R scr (d + 1) 240 60 [some (.ref t0)] (o.1.toList ++ []) o.2) := r_cvE (as := [.long v1]) (r := []) d240_57 c240_144 ow217 o_u0.2.1 np217.symm rfl (hs_fitE mL217 (Nat.le_of_ble_eq_true rfl))
theorem b240_60 {t0 : Nat} {s0 : Int32}  : hs_R scr (d + 1) 240 60 [some (.ref t0)] [.int s0] (S, I, L, R) = (if s0 = 0 then ((hs_C scr d 216 [.int 119, .int 97, .int 120, .int 0, .int 0, .int 0] (S, I, L, R)).bind fun o => hs_R scr (d + 1) 240 78 [some (.ref t0)] (o.1.toList ++ [.ref t0]) o.2) else some (some (.int 2), (S, I, L, R))) := Eq.trans (r_zeq d240_60 rfl) (q_ite (Eq.trans (r_al_n d240_65 rfl) (Eq.trans (r_bp d240_66 kB_119) (Eq.trans (r_bp d240_68 kB_97) (Eq.trans (r_bp d240_70 kB_120) (Eq.trans (r_ic d240_72 kI_0) (Eq.trans (r_ic d240_73 kI_0) (Eq.trans (r_ic d240_74 kI_0) (r_cs (as := [.int 119, .int 97, .int 120, .int 0, .int 0, .int 0]) (r := [.ref t0]) d240_75 c240_140 np216.symm rfl (hs_fitE mL216 (Nat.le_of_ble_eq_true rfl)))))))))) (Eq.trans (r_ic d240_63 kI_2) (r_ri d240_64 rt240)))
theorem b240_78 {t0 u0 : Nat} {v1 : Int64} (o_u0 : ok11 S R u0) : hs_R scr (d + 1) 240 78 [some (.ref t0)] [.long v1, .ref u0] (S, I, L, R) = ((hs_C scr d 217 [.ref u0, .long v1] (S, I, L, R)).bind fun o => hs_R scr (d + 1) 240 81 [some (.ref t0)] (o.1.toList ++ []) o.2) := r_cvE (as := [.long v1]) (r := []) d240_78 c240_144 ow217 o_u0.2.1 np217.symm rfl (hs_fitE mL217 (Nat.le_of_ble_eq_true rfl))
theorem b240_81 {t0 : Nat} {s0 : Int32}  : hs_R scr (d + 1) 240 81 [some (.ref t0)] [.int s0] (S, I, L, R) = (if s0 = 0 then ((hs_C scr d 216 [.int 116, .int 114, .int 105, .int 109, .int 0, .int 0] (S, I, L, R)).bind fun o => hs_R scr (d + 1) 240 100 [some (.ref t0)] (o.1.toList ++ [.ref t0]) o.2) else some (some (.int 3), (S, I, L, R))) := Eq.trans (r_zeq d240_81 rfl) (q_ite (Eq.trans (r_al_n d240_86 rfl) (Eq.trans (r_bp d240_87 kB_116) (Eq.trans (r_bp d240_89 kB_114) (Eq.trans (r_bp d240_91 kB_105) (Eq.trans (r_bp d240_93 kB_109) (Eq.trans (r_ic d240_95 kI_0) (Eq.trans (r_ic d240_96 kI_0) (r_cs (as := [.int 116, .int 114, .int 105, .int 109, .int 0, .int 0]) (r := [.ref t0]) d240_97 c240_140 np216.symm rfl (hs_fitE mL216 (Nat.le_of_ble_eq_true rfl)))))))))) (Eq.trans (r_ic d240_84 kI_3) (r_ri d240_85 rt240)))
theorem b240_100 {t0 u0 : Nat} {v1 : Int64} (o_u0 : ok11 S R u0) : hs_R scr (d + 1) 240 100 [some (.ref t0)] [.long v1, .ref u0] (S, I, L, R) = ((hs_C scr d 217 [.ref u0, .long v1] (S, I, L, R)).bind fun o => hs_R scr (d + 1) 240 103 [some (.ref t0)] (o.1.toList ++ []) o.2) := r_cvE (as := [.long v1]) (r := []) d240_100 c240_144 ow217 o_u0.2.1 np217.symm rfl (hs_fitE mL217 (Nat.le_of_ble_eq_true rfl))
theorem b240_103 {t0 : Nat} {s0 : Int32}  : hs_R scr (d + 1) 240 103 [some (.ref t0)] [.int s0] (S, I, L, R) = (if s0 = 0 then ((hs_C scr d 216 [.int 118, .int 111, .int 116, .int 101, .int 0, .int 0] (S, I, L, R)).bind fun o => hs_R scr (d + 1) 240 122 [some (.ref t0)] (o.1.toList ++ [.ref t0]) o.2) else some (some (.int 4), (S, I, L, R))) := Eq.trans (r_zeq d240_103 rfl) (q_ite (Eq.trans (r_al_n d240_108 rfl) (Eq.trans (r_bp d240_109 kB_118) (Eq.trans (r_bp d240_111 kB_111) (Eq.trans (r_bp d240_113 kB_116) (Eq.trans (r_bp d240_115 kB_101) (Eq.trans (r_ic d240_117 kI_0) (Eq.trans (r_ic d240_118 kI_0) (r_cs (as := [.int 118, .int 111, .int 116, .int 101, .int 0, .int 0]) (r := [.ref t0]) d240_119 c240_140 np216.symm rfl (hs_fitE mL216 (Nat.le_of_ble_eq_true rfl)))))))))) (Eq.trans (r_ic d240_106 kI_4) (r_ri d240_107 rt240)))
theorem b240_122 {t0 u0 : Nat} {v1 : Int64} (o_u0 : ok11 S R u0) : hs_R scr (d + 1) 240 122 [some (.ref t0)] [.long v1, .ref u0] (S, I, L, R) = ((hs_C scr d 217 [.ref u0, .long v1] (S, I, L, R)).bind fun o => hs_R scr (d + 1) 240 125 [some (.ref t0)] (o.1.toList ++ []) o.2) := r_cvE (as := [.long v1]) (r := []) d240_122 c240_144 ow217 o_u0.2.1 np217.symm rfl (hs_fitE mL217 (Nat.le_of_ble_eq_true rfl))
theorem b240_125 {t0 : Nat} {s0 : Int32}  : hs_R scr (d + 1) 240 125 [some (.ref t0)] [.int s0] (S, I, L, R) = (if s0 = 0 then ((hs_C scr d 216 [.int 104, .int 97, .int 110, .int 100, .int 0, .int 0] (S, I, L, R)).bind fun o => hs_R scr (d + 1) 240 144 [some (.ref t0)] (o.1.toList ++ [.ref t0]) o.2) else some (some (.int 5), (S, I, L, R))) := Eq.trans (r_zeq d240_125 rfl) (q_ite (Eq.trans (r_al_n d240_130 rfl) (Eq.trans (r_bp d240_131 kB_104) (Eq.trans (r_bp d240_133 kB_97) (Eq.trans (r_bp d240_135 kB_110) (Eq.trans (r_bp d240_137 kB_100) (Eq.trans (r_ic d240_139 kI_0) (Eq.trans (r_ic d240_140 kI_0) (r_cs (as := [.int 104, .int 97, .int 110, .int 100, .int 0, .int 0]) (r := [.ref t0]) d240_141 c240_140 np216.symm rfl (hs_fitE mL216 (Nat.le_of_ble_eq_true rfl)))))))))) (Eq.trans (r_ic d240_128 kI_5) (r_ri d240_129 rt240)))
theorem b240_144 {t0 u0 : Nat} {v1 : Int64} (o_u0 : ok11 S R u0) : hs_R scr (d + 1) 240 144 [some (.ref t0)] [.long v1, .ref u0] (S, I, L, R) = ((hs_C scr d 217 [.ref u0, .long v1] (S, I, L, R)).bind fun o => hs_R scr (d + 1) 240 147 [some (.ref t0)] (o.1.toList ++ []) o.2) := r_cvE (as := [.long v1]) (r := []) d240_144 c240_144 ow217 o_u0.2.1 np217.symm rfl (hs_fitE mL217 (Nat.le_of_ble_eq_true rfl))
theorem b240_147 {t0 : Nat} {s0 : Int32}  : hs_R scr (d + 1) 240 147 [some (.ref t0)] [.int s0] (S, I, L, R) = (if s0 = 0 then ((hs_C scr d 216 [.int 97, .int 110, .int 121, .int 0, .int 0, .int 0] (S, I, L, R)).bind fun o => hs_R scr (d + 1) 240 166 [some (.ref t0)] (o.1.toList ++ [.ref t0]) o.2) else some (some (.int 6), (S, I, L, R))) := Eq.trans (r_zeq d240_147 rfl) (q_ite (Eq.trans (r_al_n d240_153 rfl) (Eq.trans (r_bp d240_154 kB_97) (Eq.trans (r_bp d240_156 kB_110) (Eq.trans (r_bp d240_158 kB_121) (Eq.trans (r_ic d240_160 kI_0) (Eq.trans (r_ic d240_161 kI_0) (Eq.trans (r_ic d240_162 kI_0) (r_cs (as := [.int 97, .int 110, .int 121, .int 0, .int 0, .int 0]) (r := [.ref t0]) d240_163 c240_140 np216.symm rfl (hs_fitE mL216 (Nat.le_of_ble_eq_true rfl)))))))))) (Eq.trans (r_bp d240_150 kB_6) (r_ri d240_152 rt240)))
theorem b240_166 {t0 u0 : Nat} {v1 : Int64} (o_u0 : ok11 S R u0) : hs_R scr (d + 1) 240 166 [some (.ref t0)] [.long v1, .ref u0] (S, I, L, R) = ((hs_C scr d 217 [.ref u0, .long v1] (S, I, L, R)).bind fun o => hs_R scr (d + 1) 240 169 [some (.ref t0)] (o.1.toList ++ []) o.2) := r_cvE (as := [.long v1]) (r := []) d240_166 c240_144 ow217 o_u0.2.1 np217.symm rfl (hs_fitE mL217 (Nat.le_of_ble_eq_true rfl))
theorem b240_169 {t0 : Nat} {s0 : Int32}  : hs_R scr (d + 1) 240 169 [some (.ref t0)] [.int s0] (S, I, L, R) = (if s0 = 0 then ((hs_C scr d 216 [.int 119, .int 104, .int 101, .int 110, .int 0, .int 0] (S, I, L, R)).bind fun o => hs_R scr (d + 1) 240 189 [some (.ref t0)] (o.1.toList ++ [.ref t0]) o.2) else some (some (.int 7), (S, I, L, R))) := Eq.trans (r_zeq d240_169 rfl) (q_ite (Eq.trans (r_al_n d240_175 rfl) (Eq.trans (r_bp d240_176 kB_119) (Eq.trans (r_bp d240_178 kB_104) (Eq.trans (r_bp d240_180 kB_101) (Eq.trans (r_bp d240_182 kB_110) (Eq.trans (r_ic d240_184 kI_0) (Eq.trans (r_ic d240_185 kI_0) (r_cs (as := [.int 119, .int 104, .int 101, .int 110, .int 0, .int 0]) (r := [.ref t0]) d240_186 c240_140 np216.symm rfl (hs_fitE mL216 (Nat.le_of_ble_eq_true rfl)))))))))) (Eq.trans (r_bp d240_172 kB_7) (r_ri d240_174 rt240)))
theorem b240_189 {t0 u0 : Nat} {v1 : Int64} (o_u0 : ok11 S R u0) : hs_R scr (d + 1) 240 189 [some (.ref t0)] [.long v1, .ref u0] (S, I, L, R) = ((hs_C scr d 217 [.ref u0, .long v1] (S, I, L, R)).bind fun o => hs_R scr (d + 1) 240 192 [some (.ref t0)] (o.1.toList ++ []) o.2) := r_cvE (as := [.long v1]) (r := []) d240_189 c240_144 ow217 o_u0.2.1 np217.symm rfl (hs_fitE mL217 (Nat.le_of_ble_eq_true rfl))
theorem b240_192 {t0 : Nat} {s0 : Int32}  : hs_R scr (d + 1) 240 192 [some (.ref t0)] [.int s0] (S, I, L, R) = (if s0 = 0 then ((hs_C scr d 216 [.int 108, .int 111, .int 111, .int 112, .int 0, .int 0] (S, I, L, R)).bind fun o => hs_R scr (d + 1) 240 212 [some (.ref t0)] (o.1.toList ++ [.ref t0]) o.2) else some (some (.int 8), (S, I, L, R))) := Eq.trans (r_zeq d240_192 rfl) (q_ite (Eq.trans (r_al_n d240_198 rfl) (Eq.trans (r_bp d240_199 kB_108) (Eq.trans (r_bp d240_201 kB_111) (Eq.trans (r_bp d240_203 kB_111) (Eq.trans (r_bp d240_205 kB_112) (Eq.trans (r_ic d240_207 kI_0) (Eq.trans (r_ic d240_208 kI_0) (r_cs (as := [.int 108, .int 111, .int 111, .int 112, .int 0, .int 0]) (r := [.ref t0]) d240_209 c240_140 np216.symm rfl (hs_fitE mL216 (Nat.le_of_ble_eq_true rfl)))))))))) (Eq.trans (r_bp d240_195 kB_8) (r_ri d240_197 rt240)))
theorem b240_212 {t0 u0 : Nat} {v1 : Int64} (o_u0 : ok11 S R u0) : hs_R scr (d + 1) 240 212 [some (.ref t0)] [.long v1, .ref u0] (S, I, L, R) = ((hs_C scr d 217 [.ref u0, .long v1] (S, I, L, R)).bind fun o => hs_R scr (d + 1) 240 215 [some (.ref t0)] (o.1.toList ++ []) o.2) := r_cvE (as := [.long v1]) (r := []) d240_212 c240_144 ow217 o_u0.2.1 np217.symm rfl (hs_fitE mL217 (Nat.le_of_ble_eq_true rfl))
theorem b240_215 {t0 : Nat} {s0 : Int32}  : hs_R scr (d + 1) 240 215 [some (.ref t0)] [.int s0] (S, I, L, R) = (if s0 = 0 then ((hs_C scr d 216 [.int 115, .int 116, .int 111, .int 112, .int 0, .int 0] (S, I, L, R)).bind fun o => hs_R scr (d + 1) 240 235 [some (.ref t0)] (o.1.toList ++ [.ref t0]) o.2) else some (some (.int 9), (S, I, L, R))) := Eq.trans (r_zeq d240_215 rfl) (q_ite (Eq.trans (r_al_n d240_221 rfl) (Eq.trans (r_bp d240_222 kB_115) (Eq.trans (r_bp d240_224 kB_116) (Eq.trans (r_bp d240_226 kB_111) (Eq.trans (r_bp d240_228 kB_112) (Eq.trans (r_ic d240_230 kI_0) (Eq.trans (r_ic d240_231 kI_0) (r_cs (as := [.int 115, .int 116, .int 111, .int 112, .int 0, .int 0]) (r := [.ref t0]) d240_232 c240_140 np216.symm rfl (hs_fitE mL216 (Nat.le_of_ble_eq_true rfl)))))))))) (Eq.trans (r_bp d240_218 kB_9) (r_ri d240_220 rt240)))
theorem b240_235 {t0 u0 : Nat} {v1 : Int64} (o_u0 : ok11 S R u0) : hs_R scr (d + 1) 240 235 [some (.ref t0)] [.long v1, .ref u0] (S, I, L, R) = ((hs_C scr d 217 [.ref u0, .long v1] (S, I, L, R)).bind fun o => hs_R scr (d + 1) 240 238 [some (.ref t0)] (o.1.toList ++ []) o.2) := r_cvE (as := [.long v1]) (r := []) d240_235 c240_144 ow217 o_u0.2.1 np217.symm rfl (hs_fitE mL217 (Nat.le_of_ble_eq_true rfl))
theorem b240_238 {t0 : Nat} {s0 : Int32}  : hs_R scr d 240 238 [some (.ref t0)] [.int s0] (S, I, L, R) = (if s0 = 0 then hs_R scr d 240 247 [some (.ref t0)] [.int (-1)] (S, I, L, R) else hs_R scr d 240 247 [some (.ref t0)] [.int 10] (S, I, L, R)) := Eq.trans (r_zeq d240_238 rfl) (q_ite (Eq.trans (r_ic d240_246 kI_m1) (rfl)) (Eq.trans (r_bp d240_241 kB_10) (Eq.trans (r_goto d240_243 rfl) (rfl))))
theorem b240_247 {t0 : Nat} {s0 : Int32}  : hs_R scr d 240 247 [some (.ref t0)] [.int s0] (S, I, L, R) = some (some (.int s0), (S, I, L, R)) := r_ri d240_247 rt240
theorem e241 {t0 : Nat} : hs_C scr d 241 [.ref t0] h = hs_R scr d 241 0 [some (.ref t0)] [] h := by rw [hs_C, mL241]; rfl
theorem b241_0 {t0 : Nat}  : hs_R scr (d + 1) 241 0 [some (.ref t0)] [] (S, I, L, R) = ((hs_C scr d 216 [.int 115, .int 104, .int 111, .int 119, .int 115, .int 0] (S, I, L, R)).bind fun o => hs_R scr (d + 1) 241 15 [some (.ref t0)] (o.1.toList ++ [.ref t0]) o.2) := Eq.trans (r_al_n d241_0 rfl) (Eq.trans (r_bp d241_1 kB_115) (Eq.trans (r_bp d241_3 kB_104) (Eq.trans (r_bp d241_5 kB_111) (Eq.trans (r_bp d241_7 kB_119) (Eq.trans (r_bp d241_9 kB_115) (Eq.trans (r_ic d241_11 kI_0) (r_cs (as := [.int 115, .int 104, .int 111, .int 119, .int 115, .int 0]) (r := [.ref t0]) d241_12 c241_140 np216.symm rfl (hs_fitE mL216 (Nat.le_of_ble_eq_true rfl)))))))))
theorem b241_15 {t0 u0 : Nat} {v1 : Int64} (o_u0 : ok11 S R u0) : hs_R scr (d + 1) 241 15 [some (.ref t0)] [.long v1, .ref u0] (S, I, L, R) = ((hs_C scr d 217 [.ref u0, .long v1] (S, I, L, R)).bind fun o => hs_R scr (d + 1) 241 18 [some (.ref t0)] (o.1.toList ++ []) o.2) := r_cvE (as := [.long v1]) (r := []) d241_15 c241_144 ow217 o_u0.2.1 np217.symm rfl (hs_fitE mL217 (Nat.le_of_ble_eq_true rfl))
theorem b241_18 {t0 : Nat} {s0 : Int32} (o_t0 : ok11 S R t0) : hs_R scr (d + 1) 241 18 [some (.ref t0)] [.int s0] (S, I, L, R) = (if s0 = 0 then ((hs_C scr d 242 [.ref t0] (S, I, L, R)).bind fun o => hs_R scr (d + 1) 241 27 [some (.ref t0)] (o.1.toList ++ []) o.2) else some (some (.int 0), (S, I, L, R))) := Eq.trans (r_zeq d241_18 rfl) (q_ite (Eq.trans (r_al_n d241_23 rfl) (r_cvE (as := []) (r := []) d241_24 c241_148 ow242 o_t0.2.1 np242.symm rfl (hs_fitE mL242 (Nat.le_of_ble_eq_true rfl)))) (Eq.trans (r_ic d241_21 kI_0) (r_ri d241_22 rt241)))
theorem b241_27 {t0 : Nat} {s0 : Int32} (o_t0 : ok11 S R t0) : hs_R scr (d + 1) 241 27 [some (.ref t0)] [.int s0] (S, I, L, R) = (if s0 = 0 then ((hs_C scr d 240 [.ref t0] (S, I, L, R)).bind fun o => hs_R scr (d + 1) 241 38 [some (.ref t0)] (o.1.toList ++ []) o.2) else hs_R scr (d + 1) 241 47 [some (.ref t0)] [.int 1] (S, I, L, R)) := Eq.trans (r_zeq d241_27 rfl) (q_ite (Eq.trans (r_al_n d241_34 rfl) (r_cvE (as := []) (r := []) d241_35 c241_152 ow240 o_t0.2.1 np240.symm rfl (hs_fitE mL240 (Nat.le_of_ble_eq_true rfl)))) (Eq.trans (r_ic d241_30 kI_1) (Eq.trans (r_goto d241_31 rfl) (rfl))))
theorem b241_38 {t0 : Nat} {s0 : Int32}  : hs_R scr d 241 38 [some (.ref t0)] [.int s0] (S, I, L, R) = (if s0 = 1 then hs_R scr d 241 47 [some (.ref t0)] [.int 2] (S, I, L, R) else hs_R scr d 241 47 [some (.ref t0)] [.int (-1)] (S, I, L, R)) := Eq.trans (r_ic d241_38 kI_1) (Eq.trans (r_cne d241_39 rfl) (q_ite (Eq.trans (r_ic d241_42 kI_2) (Eq.trans (r_goto d241_43 rfl) (rfl))) (Eq.trans (r_ic d241_46 kI_m1) (rfl))))
theorem b241_47 {t0 : Nat} {s0 : Int32}  : hs_R scr d 241 47 [some (.ref t0)] [.int s0] (S, I, L, R) = some (some (.int s0), (S, I, L, R)) := r_ri d241_47 rt241
theorem e242 {t0 : Nat} : hs_C scr d 242 [.ref t0] h = hs_R scr d 242 0 [some (.ref t0)] [] h := by rw [hs_C, mL242]; rfl
theorem b242_0 {t0 : Nat}  : hs_R scr (d + 1) 242 0 [some (.ref t0)] [] (S, I, L, R) = ((hs_C scr d 216 [.int 108, .int 101, .int 110, .int 103, .int 116, .int 104] (S, I, L, R)).bind fun o => hs_R scr (d + 1) 242 16 [some (.ref t0)] (o.1.toList ++ [.ref t0]) o.2) := Eq.trans (r_al_n d242_0 rfl) (Eq.trans (r_bp d242_1 kB_108) (Eq.trans (r_bp d242_3 kB_101) (Eq.trans (r_bp d242_5 kB_110) (Eq.trans (r_bp d242_7 kB_103) (Eq.trans (r_bp d242_9 kB_116) (Eq.trans (r_bp d242_11 kB_104) (r_cs (as := [.int 108, .int 101, .int 110, .int 103, .int 116, .int 104]) (r := [.ref t0]) d242_13 c242_140 np216.symm rfl (hs_fitE mL216 (Nat.le_of_ble_eq_true rfl)))))))))
theorem b242_16 {t0 u0 : Nat} {v1 : Int64} (o_u0 : ok11 S R u0) : hs_R scr (d + 1) 242 16 [some (.ref t0)] [.long v1, .ref u0] (S, I, L, R) = ((hs_C scr d 217 [.ref u0, .long v1] (S, I, L, R)).bind fun o => hs_R scr (d + 1) 242 19 [some (.ref t0)] (o.1.toList ++ []) o.2) := r_cvE (as := [.long v1]) (r := []) d242_16 c242_144 ow217 o_u0.2.1 np217.symm rfl (hs_fitE mL217 (Nat.le_of_ble_eq_true rfl))
theorem b242_19 {t0 : Nat} {s0 : Int32}  : hs_R scr d 242 19 [some (.ref t0)] [.int s0] (S, I, L, R) = (if s0 = 0 ∨ s0 = 1 then some (some (.int s0), (S, I, L, R)) else none) := r_rz d242_19 rt242
theorem e243 {t0 : Nat} : hs_C scr d 243 [.ref t0] h = hs_R scr d 243 0 [some (.ref t0)] [] h := by rw [hs_C, mL243]; rfl
theorem b243_0 {t0 : Nat}  : hs_R scr (d + 1) 243 0 [some (.ref t0)] [] (S, I, L, R) = ((hs_C scr d 216 [.int 101, .int 110, .int 100, .int 0, .int 0, .int 0] (S, I, L, R)).bind fun o => hs_R scr (d + 1) 243 13 [some (.ref t0)] (o.1.toList ++ [.ref t0]) o.2) := Eq.trans (r_al_n d243_0 rfl) (Eq.trans (r_bp d243_1 kB_101) (Eq.trans (r_bp d243_3 kB_110) (Eq.trans (r_bp d243_5 kB_100) (Eq.trans (r_ic d243_7 kI_0) (Eq.trans (r_ic d243_8 kI_0) (Eq.trans (r_ic d243_9 kI_0) (r_cs (as := [.int 101, .int 110, .int 100, .int 0, .int 0, .int 0]) (r := [.ref t0]) d243_10 c243_140 np216.symm rfl (hs_fitE mL216 (Nat.le_of_ble_eq_true rfl)))))))))
theorem b243_13 {t0 u0 : Nat} {v1 : Int64} (o_u0 : ok11 S R u0) : hs_R scr (d + 1) 243 13 [some (.ref t0)] [.long v1, .ref u0] (S, I, L, R) = ((hs_C scr d 217 [.ref u0, .long v1] (S, I, L, R)).bind fun o => hs_R scr (d + 1) 243 16 [some (.ref t0)] (o.1.toList ++ []) o.2) := r_cvE (as := [.long v1]) (r := []) d243_13 c243_144 ow217 o_u0.2.1 np217.symm rfl (hs_fitE mL217 (Nat.le_of_ble_eq_true rfl))
theorem b243_16 {t0 : Nat} {s0 : Int32}  : hs_R scr d 243 16 [some (.ref t0)] [.int s0] (S, I, L, R) = (if s0 = 0 ∨ s0 = 1 then some (some (.int s0), (S, I, L, R)) else none) := r_rz d243_16 rt243
theorem e244 {t0 : Nat} : hs_C scr d 244 [.ref t0] h = hs_R scr d 244 0 [some (.ref t0), none] [] h := by rw [hs_C, mL244]; rfl
theorem b244_0 {t0 : Nat}  : hs_R scr d 244 0 [some (.ref t0), none] [] (S, I, L, R) = hs_R scr d 244 2 [some (.ref t0), some (.int 0)] [] (S, I, L, R) := Eq.trans (r_ic d244_0 kI_0) (Eq.trans (r_is_n (loc' := [some (.ref t0), some (.int 0)]) d244_1 rfl) (rfl))
theorem b244_2 {t0 : Nat} {x1 : Int32} (o_t0 : ok11 S R t0) : hs_R scr (d + 1) 244 2 [some (.ref t0), some (.int x1)] [] (S, I, L, R) = (if (5 : Int32) ≤ x1 then some (some (.int 0), (S, I, L, R)) else ((hs_C scr d 245 [.ref t0, .int 4, .int x1] (S, I, L, R)).bind fun o => hs_R scr (d + 1) 244 13 [some (.ref t0), some (.int x1)] (o.1.toList ++ []) o.2)) := Eq.trans (r_il_n d244_2 rfl) (Eq.trans (r_ic d244_3 kI_5) (Eq.trans (r_cge d244_4 rfl) (q_ite (Eq.trans (r_ic d244_24 kI_0) ((r_rz d244_25 rt244).trans (if_pos (Or.inl rfl)))) (Eq.trans (r_al_n d244_7 rfl) (Eq.trans (r_ic d244_8 kI_4) (Eq.trans (r_il_n d244_9 rfl) (r_cvE (as := [.int 4, .int x1]) (r := []) d244_10 c244_236 ow245 o_t0.2.1 np245.symm rfl (hs_fitE mL245 (Nat.le_of_ble_eq_true rfl)))))))))
theorem b244_13 {t0 : Nat} {x1 s0 : Int32}  : hs_R scr d 244 13 [some (.ref t0), some (.int x1)] [.int s0] (S, I, L, R) = (if s0 < 0 then hs_R scr d 244 2 [some (.ref t0), some (.int (x1 + 1))] [] (S, I, L, R) else some (some (.int 1), (S, I, L, R))) := Eq.trans (r_zlt d244_13 rfl) (q_ite (Eq.trans (r_inc (loc' := [some (.ref t0), some (.int (x1 + 1))]) d244_18 kI_1 rfl rfl) (Eq.trans (r_goto d244_21 rfl) (rfl))) (Eq.trans (r_ic d244_16 kI_1) ((r_rz d244_17 rt244).trans (if_pos (Or.inr rfl)))))
theorem e245 {t0 : Nat} {x1 : Int32} {x2 : Int32} : hs_C scr d 245 [.ref t0, .int x1, .int x2] h = hs_R scr d 245 0 [some (.ref t0), some (.int x1), some (.int x2), none] [] h := by rw [hs_C, mL245]; rfl
theorem b245_0 {t0 : Nat} {x1 x2 : Int32}  : hs_R scr d 245 0 [some (.ref t0), some (.int x1), some (.int x2), none] [] (S, I, L, R) = hs_R scr d 245 2 [some (.ref t0), some (.int x1), some (.int x2), some (.int 0)] [] (S, I, L, R) := Eq.trans (r_ic d245_0 kI_0) (Eq.trans (r_is_n (loc' := [some (.ref t0), some (.int x1), some (.int x2), some (.int 0)]) d245_1 rfl) (rfl))
theorem b245_2 {t0 : Nat} {x1 x2 x3 : Int32} (o_t0 : ok11 S R t0) : hs_R scr (d + 1) 245 2 [some (.ref t0), some (.int x1), some (.int x2), some (.int x3)] [] (S, I, L, R) = (if hs_ib (((399 : Int32) * x1) + x2) 1995 = true then (if (I (t0 + 5) (Int32.toNatClampNeg (((399 : Int32) * x1) + x2))) ≤ x3 then some (some (.int (-1)), (S, I, L, R)) else ((hs_C scr d 246 [.int x2] (S, I, L, R)).bind fun o => hs_R scr (d + 1) 245 30 [some (.ref t0), some (.int x1), some (.int x2), some (.int x3)] (o.1.toList ++ [.int ((31 : Int32) * x1), .ref (t0 + 8)]) o.2)) else none) := Eq.trans (r_il_n d245_2 rfl) (Eq.trans (r_al_n d245_3 rfl) (Eq.trans (r_getRe d245_4 f245_35 o_t0.2.1 (o_t0.2.2.2.2.2.2.2.2.2.2.1) (Nat.le_trans o_t0.1 (Nat.le_add_right _ _))) (Eq.trans (r_sp d245_7 kS_399) (Eq.trans (r_il_n d245_10 rfl) (Eq.trans (r_imul d245_11) (Eq.trans (r_il_n d245_12 rfl) (Eq.trans (r_iadd d245_13) (Eq.trans (r_iald d245_14 (o_t0.2.2.2.2.2.2.2.2.2.2.2.1)) (q_ite (Eq.trans (r_cge d245_15 rfl) (q_ite (Eq.trans (r_ic d245_50 kI_m1) (r_ri d245_51 rt245)) (Eq.trans (r_al_n d245_18 rfl) (Eq.trans (r_getRe d245_19 f245_44 o_t0.2.1 (o_t0.2.2.2.2.2.2.2.2.2.2.2.2.2.2.2.2.1) (Nat.le_trans o_t0.1 (Nat.le_add_right _ _))) (Eq.trans (r_bp d245_22 kB_31) (Eq.trans (r_il_n d245_24 rfl) (Eq.trans (r_imul d245_25) (Eq.trans (r_il_n d245_26 rfl) (r_cs (as := [.int x2]) (r := [.int ((31 : Int32) * x1), .ref (t0 + 8)]) d245_27 c245_233 np246.symm rfl (hs_fitE mL246 (Nat.le_of_ble_eq_true rfl))))))))))) rfl)))))))))
theorem b245_30 {t0 u0 n_u0 : Nat} {x1 x2 x3 s1 s2 : Int32} (a_u0 : S[u0]? = some (.inr (.long, n_u0))) (o_t0 : ok11 S R t0) : hs_R scr d 245 30 [some (.ref t0), some (.int x1), some (.int x2), some (.int x3)] [.int s2, .int s1, .ref u0] (S, I, L, R) = (if hs_ib ((s1 + s2) + x3) n_u0 = true then (if (lg_cmp (L u0 (Int32.toNatClampNeg ((s1 + s2) + x3))) (L t0 19)) = 0 then some (some (.int x3), (S, I, L, R)) else hs_R scr d 245 2 [some (.ref t0), some (.int x1), some (.int x2), some (.int (x3 + 1))] [] (S, I, L, R)) else none) := Eq.trans (r_iadd d245_30) (Eq.trans (r_il_n d245_31 rfl) (Eq.trans (r_iadd d245_32) (Eq.trans (r_lald d245_33 a_u0) (q_ite (Eq.trans (r_al_n d245_34 rfl) (Eq.trans (r_getL d245_35 f245_121 o_t0.2.1) (Eq.trans (r_lcmp d245_38) (Eq.trans (r_zne d245_39 rfl) (q_ite (Eq.trans (r_il_n d245_42 rfl) (r_ri d245_43 rt245)) (Eq.trans (r_inc (loc' := [some (.ref t0), some (.int x1), some (.int x2), some (.int (x3 + 1))]) d245_44 kI_1 rfl rfl) (Eq.trans (r_goto d245_47 rfl) (rfl)))))))) rfl))))
theorem e246 {x0 : Int32} : hs_C scr d 246 [.int x0] h = hs_R scr d 246 0 [some (.int x0)] [] h := by rw [hs_C, mL246]; rfl
theorem b246_0 {x0 : Int32}  : hs_R scr d 246 0 [some (.int x0)] [] (S, I, L, R) = (if x0 = 0 then hs_R scr d 246 24 [some (.int x0)] [.int 0] (S, I, L, R) else (if x0 = 1 then hs_R scr d 246 24 [some (.int x0)] [.int 8] (S, I, L, R) else hs_R scr d 246 24 [some (.int x0)] [.int (((6 : Int32) * x0) + 1)] (S, I, L, R))) := Eq.trans (r_il_n d246_0 rfl) (Eq.trans (r_zne d246_1 rfl) (q_ite (Eq.trans (r_ic d246_4 kI_0) (Eq.trans (r_goto d246_5 rfl) (rfl))) (Eq.trans (r_il_n d246_8 rfl) (Eq.trans (r_ic d246_9 kI_1) (Eq.trans (r_cne d246_10 rfl) (q_ite (Eq.trans (r_bp d246_13 kB_8) (Eq.trans (r_goto d246_15 rfl) (rfl))) (Eq.trans (r_bp d246_18 kB_6) (Eq.trans (r_il_n d246_20 rfl) (Eq.trans (r_imul d246_21) (Eq.trans (r_ic d246_22 kI_1) (Eq.trans (r_iadd d246_23) (rfl))))))))))))
theorem b246_24 {x0 s0 : Int32}  : hs_R scr d 246 24 [some (.int x0)] [.int s0] (S, I, L, R) = some (some (.int s0), (S, I, L, R)) := r_ri d246_24 rt246
theorem e247 {t0 : Nat} {x1 : Int32} {x2 : Int32} {x3 : Int32} : hs_C scr d 247 [.ref t0, .int x1, .int x2, .int x3] h = hs_R scr d 247 0 [some (.ref t0), some (.int x1), some (.int x2), some (.int x3)] [] h := by rw [hs_C, mL247]; rfl
theorem b247_0 {t0 : Nat} {x1 x2 x3 : Int32} (o_t0 : ok11 S R t0) : hs_R scr (d + 1) 247 0 [some (.ref t0), some (.int x1), some (.int x2), some (.int x3)] [] (S, I, L, R) = ((hs_C scr d 248 [.ref t0, .int x1] (S, I, L, R)).bind fun o => hs_R scr (d + 1) 247 5 [some (.ref t0), some (.int x1), some (.int x2), some (.int x3)] (o.1.toList ++ []) o.2) := Eq.trans (r_al_n d247_0 rfl) (Eq.trans (r_il_n d247_1 rfl) (r_cvE (as := [.int x1]) (r := []) d247_2 c247_220 ow248 o_t0.2.1 np248.symm rfl (hs_fitE mL248 (Nat.le_of_ble_eq_true rfl))))
theorem b247_5 {t0 : Nat} {x1 x2 x3 : Int32} (o_t0 : ok11 S R t0) : hs_R scr (d + 1) 247 5 [some (.ref t0), some (.int x1), some (.int x2), some (.int x3)] [] (S, I, L, R) = ((hs_C scr d 221 [.ref t0, .int x2, .int x3] (S, I, L, R)).bind fun o => hs_R scr (d + 1) 247 11 [some (.ref t0), some (.int x1), some (.int x2), some (.int x3)] (o.1.toList ++ []) o.2) := Eq.trans (r_al_n d247_5 rfl) (Eq.trans (r_il_n d247_6 rfl) (Eq.trans (r_il_n d247_7 rfl) (r_cvE (as := [.int x2, .int x3]) (r := []) d247_8 c247_224 ow221 o_t0.2.1 np221.symm rfl (hs_fitE mL221 (Nat.le_of_ble_eq_true rfl)))))
theorem b247_11 {t0 : Nat} {x1 x2 x3 s0 : Int32}  : hs_R scr d 247 11 [some (.ref t0), some (.int x1), some (.int x2), some (.int x3)] [.int s0] (S, I, L, R) = some (some (.int s0), (S, I, L, R)) := r_ri d247_11 rt247
theorem e248 {t0 : Nat} {x1 : Int32} : hs_C scr d 248 [.ref t0, .int x1] h = hs_R scr d 248 0 [some (.ref t0), some (.int x1)] [] h := by rw [hs_C, mL248]; rfl
theorem b248_0 {t0 : Nat} {x1 : Int32} (o_t0 : ok11 S R t0) : hs_R scr (d + 1) 248 0 [some (.ref t0), some (.int x1)] [] (S, I, L, R) = (if (I t0 12) ≤ 0 then (if x1 = 0 then ((hs_C scr d 222 [.ref t0] (S, I, L, R)).bind fun o => hs_R scr (d + 1) 248 23 [some (.ref t0), some (.int x1)] (o.1.toList ++ []) o.2) else ((hs_C scr d 209 [.ref t0] (S, I, L, R)).bind fun o => hs_R scr (d + 1) 248 16 [some (.ref t0), some (.int x1)] (o.1.toList ++ []) o.2)) else some (none, (S, I, L, R))) := Eq.trans (r_al_n d248_0 rfl) (Eq.trans (r_getI d248_1 f248_204 o_t0.2.1) (Eq.trans (r_zle d248_4 rfl) (q_ite (Eq.trans (r_il_n d248_8 rfl) (Eq.trans (r_zeq d248_9 rfl) (q_ite (Eq.trans (r_al_n d248_19 rfl) (r_cvE (as := []) (r := []) d248_20 c248_217 ow222 o_t0.2.1 np222.symm rfl (hs_fitE mL222 (Nat.le_of_ble_eq_true rfl)))) (Eq.trans (r_al_n d248_12 rfl) (r_cvE (as := []) (r := []) d248_13 c248_214 ow209 o_t0.2.1 np209.symm rfl (hs_fitE mL209 (Nat.le_of_ble_eq_true rfl))))))) (r_rv d248_7 rt248))))
theorem b248_16 {t0 : Nat} {x1 : Int32}  : hs_R scr d 248 16 [some (.ref t0), some (.int x1)] [] (S, I, L, R) = hs_R scr d 248 23 [some (.ref t0), some (.int x1)] [] (S, I, L, R) := Eq.trans (r_goto d248_16 rfl) (rfl)
theorem b248_23 {t0 : Nat} {x1 : Int32}  : hs_R scr d 248 23 [some (.ref t0), some (.int x1)] [] (S, I, L, R) = some (none, (S, I, L, R)) := r_rv d248_23 rt248
theorem e249 {t0 : Nat} {x1 : Int32} : hs_C scr d 249 [.ref t0, .int x1] h = hs_R scr d 249 0 [some (.ref t0), some (.int x1)] [] h := by rw [hs_C, mL249]; rfl
theorem b249_0 {t0 : Nat} {x1 : Int32} (o_t0 : ok11 S R t0) : hs_R scr (d + 1) 249 0 [some (.ref t0), some (.int x1)] [] (S, I, L, R) = (if (0 : Int32) < (I t0 12) then hs_R scr (d + 1) 249 11 [some (.ref t0), some (.int x1)] [] (S, I, L, R) else (if x1 = 0 then hs_R scr (d + 1) 249 11 [some (.ref t0), some (.int x1)] [] (S, I, L, R) else ((hs_C scr d 209 [.ref t0] (S, I, L, R)).bind fun o => hs_R scr (d + 1) 249 17 [some (.ref t0), some (.int x1)] (o.1.toList ++ []) o.2))) := Eq.trans (r_al_n d249_0 rfl) (Eq.trans (r_getI d249_1 f249_204 o_t0.2.1) (Eq.trans (r_zgt d249_4 rfl) (q_ite (rfl) (Eq.trans (r_il_n d249_7 rfl) (Eq.trans (r_zne d249_8 rfl) (q_ite (rfl) (Eq.trans (r_al_n d249_13 rfl) (r_cvE (as := []) (r := []) d249_14 c249_214 ow209 o_t0.2.1 np209.symm rfl (hs_fitE mL209 (Nat.le_of_ble_eq_true rfl))))))))))
theorem b249_11 {t0 : Nat} {x1 : Int32}  : hs_R scr d 249 11 [some (.ref t0), some (.int x1)] [] (S, I, L, R) = some (some (.int 0), (S, I, L, R)) := Eq.trans (r_ic d249_11 kI_0) ((r_rz d249_12 rt249).trans (if_pos (Or.inl rfl)))
theorem b249_17 {t0 : Nat} {x1 : Int32}  : hs_R scr d 249 17 [some (.ref t0), some (.int x1)] [] (S, I, L, R) = some (some (.int 1), (S, I, L, R)) := Eq.trans (r_ic d249_17 kI_1) ((r_rz d249_18 rt249).trans (if_pos (Or.inr rfl)))
theorem e250 {t0 : Nat} : hs_C scr d 250 [.ref t0] h = hs_R scr d 250 0 [some (.ref t0), none, none, none] [] h := by rw [hs_C, mL250]; rfl
theorem b250_0 {t0 : Nat} (o_t0 : ok11 S R t0) : hs_R scr (d + 1) 250 0 [some (.ref t0), none, none, none] [] (S, I, L, R) = ((hs_C scr d 227 [.ref t0, .int 1, .int 5] (S, I, L, R)).bind fun o => hs_R scr (d + 1) 250 6 [some (.ref t0), none, none, none] (o.1.toList ++ []) o.2) := Eq.trans (r_al_n d250_0 rfl) (Eq.trans (r_ic d250_1 kI_1) (Eq.trans (r_ic d250_2 kI_5) (r_cvE (as := [.int 1, .int 5]) (r := []) d250_3 c250_254 ow227 o_t0.2.1 np227.symm rfl (hs_fitE mL227 (Nat.le_of_ble_eq_true rfl)))))
theorem b250_6 {t0 : Nat} {s0 : Int32} (o_t0 : ok11 S R t0) : hs_R scr (d + 1) 250 6 [some (.ref t0), none, none, none] [.int s0] (S, I, L, R) = ((hs_C scr d 232 [.ref t0] (S, I, L, R)).bind fun o => hs_R scr (d + 1) 250 12 [some (.ref t0), some (.int s0), none, none] (o.1.toList ++ [.ref t0]) o.2) := Eq.trans (r_is_n (loc' := [some (.ref t0), some (.int s0), none, none]) d250_6 rfl) (Eq.trans (r_al_n d250_7 rfl) (Eq.trans (r_al_n d250_8 rfl) (r_cvE (as := []) (r := [.ref t0]) d250_9 c250_171 ow232 o_t0.2.1 np232.symm rfl (hs_fitE mL232 (Nat.le_of_ble_eq_true rfl)))))
theorem b250_12 {t0 u0 : Nat} {x1 s1 : Int32} (o_u0 : ok11 S R u0) : hs_R scr (d + 1) 250 12 [some (.ref t0), some (.int x1), none, none] [.int s1, .ref u0] (S, I, L, R) = ((hs_C scr d 247 [.ref u0, .int s1, .int 1, .int 99] (S, I, L, R)).bind fun o => hs_R scr (d + 1) 250 18 [some (.ref t0), some (.int x1), none, none] (o.1.toList ++ []) o.2) := Eq.trans (r_ic d250_12 kI_1) (Eq.trans (r_bp d250_13 kB_99) (r_cvE (as := [.int s1, .int 1, .int 99]) (r := []) d250_15 c250_257 ow247 o_u0.2.1 np247.symm rfl (hs_fitE mL247 (Nat.le_of_ble_eq_true rfl))))
theorem b250_18 {t0 : Nat} {x1 s0 : Int32} (o_t0 : ok11 S R t0) : hs_R scr (d + 1) 250 18 [some (.ref t0), some (.int x1), none, none] [.int s0] (S, I, L, R) = ((hs_C scr d 233 [.ref t0] (S, I, L, R)).bind fun o => hs_R scr (d + 1) 250 24 [some (.ref t0), some (.int x1), some (.int s0), none] (o.1.toList ++ [.ref t0]) o.2) := Eq.trans (r_is_n (loc' := [some (.ref t0), some (.int x1), some (.int s0), none]) d250_18 rfl) (Eq.trans (r_al_n d250_19 rfl) (Eq.trans (r_al_n d250_20 rfl) (r_cvE (as := []) (r := [.ref t0]) d250_21 c250_174 ow233 o_t0.2.1 np233.symm rfl (hs_fitE mL233 (Nat.le_of_ble_eq_true rfl)))))
theorem b250_24 {t0 u0 : Nat} {x1 x2 s1 : Int32} (o_u0 : ok11 S R u0) : hs_R scr (d + 1) 250 24 [some (.ref t0), some (.int x1), some (.int x2), none] [.int s1, .ref u0] (S, I, L, R) = ((hs_C scr d 247 [.ref u0, .int s1, .int 0, .int 99] (S, I, L, R)).bind fun o => hs_R scr (d + 1) 250 30 [some (.ref t0), some (.int x1), some (.int x2), none] (o.1.toList ++ []) o.2) := Eq.trans (r_ic d250_24 kI_0) (Eq.trans (r_bp d250_25 kB_99) (r_cvE (as := [.int s1, .int 0, .int 99]) (r := []) d250_27 c250_257 ow247 o_u0.2.1 np247.symm rfl (hs_fitE mL247 (Nat.le_of_ble_eq_true rfl))))
theorem b250_30 {t0 : Nat} {x1 x2 s0 : Int32} (o_t0 : ok11 S R t0) : hs_R scr d 250 30 [some (.ref t0), some (.int x1), some (.int x2), none] [.int s0] (S, I, L, R) = (if (I t0 12) ≤ 0 then (if hs_ib ((1638 : Int32) + x1) 1995 = true then (if hs_ib ((1643 : Int32) + x1) 1995 = true then some (none, (S, (hs_u (hs_u (hs_u I (t0 + 5) (Int32.toNatClampNeg ((1638 : Int32) + x1)) x2) (t0 + 5) (Int32.toNatClampNeg ((1643 : Int32) + x1)) s0) (t0 + 5) 1597 (((hs_u (hs_u I (t0 + 5) (Int32.toNatClampNeg ((1638 : Int32) + x1)) x2) (t0 + 5) (Int32.toNatClampNeg ((1643 : Int32) + x1)) s0) (t0 + 5) 1597) + 1)), L, R)) else none) else none) else some (none, (S, I, L, R))) := Eq.trans (r_is_n (loc' := [some (.ref t0), some (.int x1), some (.int x2), some (.int s0)]) d250_30 rfl) (Eq.trans (r_al_n d250_31 rfl) (Eq.trans (r_getI d250_32 f250_204 o_t0.2.1) (Eq.trans (r_zle d250_35 rfl) (q_ite (Eq.trans (r_al_n d250_39 rfl) (Eq.trans (r_getRe d250_40 f250_35 o_t0.2.1 (o_t0.2.2.2.2.2.2.2.2.2.2.1) (Nat.le_trans o_t0.1 (Nat.le_add_right _ _))) (Eq.trans (r_sp d250_43 kS_1638) (Eq.trans (r_il_n d250_46 rfl) (Eq.trans (r_iadd d250_47) (Eq.trans (r_il_n d250_48 rfl) (Eq.trans (r_iast d250_49 (o_t0.2.2.2.2.2.2.2.2.2.2.2.1)) (q_ite (Eq.trans (r_al_n d250_50 rfl) (Eq.trans (r_getRe d250_51 f250_35 o_t0.2.1 (o_t0.2.2.2.2.2.2.2.2.2.2.1) (Nat.le_trans o_t0.1 (Nat.le_add_right _ _))) (Eq.trans (r_sp d250_54 kS_1643) (Eq.trans (r_il_n d250_57 rfl) (Eq.trans (r_iadd d250_58) (Eq.trans (r_il_n d250_59 rfl) (Eq.trans (r_iast d250_60 (o_t0.2.2.2.2.2.2.2.2.2.2.2.1)) (q_ite (Eq.trans (r_al_n d250_61 rfl) (Eq.trans (r_getRe d250_62 f250_35 o_t0.2.1 (o_t0.2.2.2.2.2.2.2.2.2.2.1) (Nat.le_trans o_t0.1 (Nat.le_add_right _ _))) (Eq.trans (r_sp d250_65 kS_1597) (Eq.trans (r_dup2 d250_68 ⟨rfl, rfl⟩) (Eq.trans ((r_ialdC d250_69 (o_t0.2.2.2.2.2.2.2.2.2.2.2.1) ib_1597_1995 tn_1597)) (Eq.trans (r_ic d250_70 kI_1) (Eq.trans (r_iadd d250_71) (Eq.trans ((r_iastC d250_72 (o_t0.2.2.2.2.2.2.2.2.2.2.2.1) ib_1597_1995 tn_1597)) (r_rv d250_73 rt250))))))))) rfl)))))))) rfl)))))))) (r_rv d250_38 rt250)))))
theorem e251 {t0 : Nat} : hs_C scr d 251 [.ref t0] h = hs_R scr d 251 0 [some (.ref t0), none, none] [] h := by rw [hs_C, mL251]; rfl
theorem b251_0 {t0 : Nat} (o_t0 : ok11 S R t0) : hs_R scr (d + 1) 251 0 [some (.ref t0), none, none] [] (S, I, L, R) = ((hs_C scr d 227 [.ref t0, .int 2, .int 6] (S, I, L, R)).bind fun o => hs_R scr (d + 1) 251 7 [some (.ref t0), none, none] (o.1.toList ++ []) o.2) := Eq.trans (r_al_n d251_0 rfl) (Eq.trans (r_ic d251_1 kI_2) (Eq.trans (r_bp d251_2 kB_6) (r_cvE (as := [.int 2, .int 6]) (r := []) d251_4 c251_254 ow227 o_t0.2.1 np227.symm rfl (hs_fitE mL227 (Nat.le_of_ble_eq_true rfl)))))
theorem b251_7 {t0 : Nat} {s0 : Int32} (o_t0 : ok11 S R t0) : hs_R scr (d + 1) 251 7 [some (.ref t0), none, none] [.int s0] (S, I, L, R) = ((hs_C scr d 235 [.ref t0] (S, I, L, R)).bind fun o => hs_R scr (d + 1) 251 13 [some (.ref t0), some (.int s0), none] (o.1.toList ++ [.ref t0]) o.2) := Eq.trans (r_is_n (loc' := [some (.ref t0), some (.int s0), none]) d251_7 rfl) (Eq.trans (r_al_n d251_8 rfl) (Eq.trans (r_al_n d251_9 rfl) (r_cvE (as := []) (r := [.ref t0]) d251_10 c251_180 ow235 o_t0.2.1 np235.symm rfl (hs_fitE mL235 (Nat.le_of_ble_eq_true rfl)))))
theorem b251_13 {t0 u0 : Nat} {x1 s1 : Int32} (o_u0 : ok11 S R u0) : hs_R scr (d + 1) 251 13 [some (.ref t0), some (.int x1), none] [.int s1, .ref u0] (S, I, L, R) = ((hs_C scr d 247 [.ref u0, .int s1, .int 0, .int 9] (S, I, L, R)).bind fun o => hs_R scr (d + 1) 251 19 [some (.ref t0), some (.int x1), none] (o.1.toList ++ []) o.2) := Eq.trans (r_ic d251_13 kI_0) (Eq.trans (r_bp d251_14 kB_9) (r_cvE (as := [.int s1, .int 0, .int 9]) (r := []) d251_16 c251_257 ow247 o_u0.2.1 np247.symm rfl (hs_fitE mL247 (Nat.le_of_ble_eq_true rfl))))
theorem b251_19 {t0 : Nat} {x1 s0 : Int32} (o_t0 : ok11 S R t0) : hs_R scr d 251 19 [some (.ref t0), some (.int x1), none] [.int s0] (S, I, L, R) = (if (I t0 12) ≤ 0 then (if hs_ib ((1648 : Int32) + x1) 1995 = true then some (none, (S, (hs_u (hs_u I (t0 + 5) (Int32.toNatClampNeg ((1648 : Int32) + x1)) s0) (t0 + 5) 1598 (((hs_u I (t0 + 5) (Int32.toNatClampNeg ((1648 : Int32) + x1)) s0) (t0 + 5) 1598) + 1)), L, R)) else none) else some (none, (S, I, L, R))) := Eq.trans (r_is_n (loc' := [some (.ref t0), some (.int x1), some (.int s0)]) d251_19 rfl) (Eq.trans (r_al_n d251_20 rfl) (Eq.trans (r_getI d251_21 f251_204 o_t0.2.1) (Eq.trans (r_zle d251_24 rfl) (q_ite (Eq.trans (r_al_n d251_28 rfl) (Eq.trans (r_getRe d251_29 f251_35 o_t0.2.1 (o_t0.2.2.2.2.2.2.2.2.2.2.1) (Nat.le_trans o_t0.1 (Nat.le_add_right _ _))) (Eq.trans (r_sp d251_32 kS_1648) (Eq.trans (r_il_n d251_35 rfl) (Eq.trans (r_iadd d251_36) (Eq.trans (r_il_n d251_37 rfl) (Eq.trans (r_iast d251_38 (o_t0.2.2.2.2.2.2.2.2.2.2.2.1)) (q_ite (Eq.trans (r_al_n d251_39 rfl) (Eq.trans (r_getRe d251_40 f251_35 o_t0.2.1 (o_t0.2.2.2.2.2.2.2.2.2.2.1) (Nat.le_trans o_t0.1 (Nat.le_add_right _ _))) (Eq.trans (r_sp d251_43 kS_1598) (Eq.trans (r_dup2 d251_46 ⟨rfl, rfl⟩) (Eq.trans ((r_ialdC d251_47 (o_t0.2.2.2.2.2.2.2.2.2.2.2.1) ib_1598_1995 tn_1598)) (Eq.trans (r_ic d251_48 kI_1) (Eq.trans (r_iadd d251_49) (Eq.trans ((r_iastC d251_50 (o_t0.2.2.2.2.2.2.2.2.2.2.2.1) ib_1598_1995 tn_1598)) (r_rv d251_51 rt251))))))))) rfl)))))))) (r_rv d251_27 rt251)))))
theorem e252 {t0 : Nat} : hs_C scr d 252 [.ref t0] h = hs_R scr d 252 0 [some (.ref t0), none, none] [] h := by rw [hs_C, mL252]; rfl
theorem b252_0 {t0 : Nat} (o_t0 : ok11 S R t0) : hs_R scr (d + 1) 252 0 [some (.ref t0), none, none] [] (S, I, L, R) = ((hs_C scr d 227 [.ref t0, .int 3, .int 6] (S, I, L, R)).bind fun o => hs_R scr (d + 1) 252 7 [some (.ref t0), none, none] (o.1.toList ++ []) o.2) := Eq.trans (r_al_n d252_0 rfl) (Eq.trans (r_ic d252_1 kI_3) (Eq.trans (r_bp d252_2 kB_6) (r_cvE (as := [.int 3, .int 6]) (r := []) d252_4 c252_254 ow227 o_t0.2.1 np227.symm rfl (hs_fitE mL227 (Nat.le_of_ble_eq_true rfl)))))
theorem b252_7 {t0 : Nat} {s0 : Int32}  : hs_R scr d 252 7 [some (.ref t0), none, none] [.int s0] (S, I, L, R) = hs_R scr d 252 10 [some (.ref t0), some (.int s0), some (.int 0)] [] (S, I, L, R) := Eq.trans (r_is_n (loc' := [some (.ref t0), some (.int s0), none]) d252_7 rfl) (Eq.trans (r_ic d252_8 kI_0) (Eq.trans (r_is_n (loc' := [some (.ref t0), some (.int s0), some (.int 0)]) d252_9 rfl) (rfl)))
theorem b252_10 {t0 : Nat} {x1 x2 : Int32} (o_t0 : ok11 S R t0) : hs_R scr (d + 1) 252 10 [some (.ref t0), some (.int x1), some (.int x2)] [] (S, I, L, R) = (if (I t0 12) = 0 then ((hs_C scr d 239 [.ref t0] (S, I, L, R)).bind fun o => hs_R scr (d + 1) 252 21 [some (.ref t0), some (.int x1), some (.int x2)] (o.1.toList ++ []) o.2) else hs_R scr (d + 1) 252 83 [some (.ref t0), some (.int x1), some (.int x2)] [] (S, I, L, R)) := Eq.trans (r_al_n d252_10 rfl) (Eq.trans (r_getI d252_11 f252_204 o_t0.2.1) (Eq.trans (r_zne d252_14 rfl) (q_ite (Eq.trans (r_al_n d252_17 rfl) (r_cvE (as := []) (r := []) d252_18 c252_192 ow239 o_t0.2.1 np239.symm rfl (hs_fitE mL239 (Nat.le_of_ble_eq_true rfl)))) (rfl))))
theorem b252_21 {t0 : Nat} {x1 x2 s0 : Int32} (o_t0 : ok11 S R t0) : hs_R scr (d + 1) 252 21 [some (.ref t0), some (.int x1), some (.int x2)] [.int s0] (S, I, L, R) = (if s0 < 0 then hs_R scr (d + 1) 252 83 [some (.ref t0), some (.int x1), some (.int x2)] [] (S, I, L, R) else (if x2 = (I (t0 + 5) 1596) then ((hs_C scr d 220 [.ref t0, .int 6, .int (I t0 15)] (S, I, L, R)).bind fun o => hs_R scr (d + 1) 252 46 [some (.ref t0), some (.int x1), some (.int x2)] (o.1.toList ++ []) o.2) else hs_R scr (d + 1) 252 46 [some (.ref t0), some (.int x1), some (.int x2)] [] (S, I, L, R))) := Eq.trans (r_zlt d252_21 rfl) (q_ite (rfl) (Eq.trans (r_il_n d252_24 rfl) (Eq.trans (r_al_n d252_25 rfl) (Eq.trans (r_getRe d252_26 f252_35 o_t0.2.1 (o_t0.2.2.2.2.2.2.2.2.2.2.1) (Nat.le_trans o_t0.1 (Nat.le_add_right _ _))) (Eq.trans (r_sp d252_29 kS_1596) (Eq.trans ((r_ialdC d252_32 (o_t0.2.2.2.2.2.2.2.2.2.2.2.1) ib_1596_1995 tn_1596)) (Eq.trans (r_cne d252_33 rfl) (q_ite (Eq.trans (r_al_n d252_36 rfl) (Eq.trans (r_bp d252_37 kB_6) (Eq.trans (r_al_n d252_39 rfl) (Eq.trans (r_getI d252_40 f252_109 o_t0.2.1) (r_cvE (as := [.int 6, .int (I t0 15)]) (r := []) d252_43 c252_210 ow220 o_t0.2.1 np220.symm rfl (hs_fitE mL220 (Nat.le_of_ble_eq_true rfl))))))) (rfl)))))))))
theorem b252_46 {t0 : Nat} {x1 x2 : Int32} (o_t0 : ok11 S R t0) : hs_R scr (d + 1) 252 46 [some (.ref t0), some (.int x1), some (.int x2)] [] (S, I, L, R) = (if (I t0 12) ≤ 0 then ((hs_C scr d 239 [.ref t0] (S, I, L, R)).bind fun o => hs_R scr (d + 1) 252 72 [some (.ref t0), some (.int x1), some (.int x2)] (o.1.toList ++ [.int (((1655 : Int32) + ((8 : Int32) * x1)) + x2), .ref (t0 + 5)]) o.2) else some (none, (S, I, L, R))) := Eq.trans (r_al_n d252_46 rfl) (Eq.trans (r_getI d252_47 f252_204 o_t0.2.1) (Eq.trans (r_zle d252_50 rfl) (q_ite (Eq.trans (r_al_n d252_54 rfl) (Eq.trans (r_getRe d252_55 f252_35 o_t0.2.1 (o_t0.2.2.2.2.2.2.2.2.2.2.1) (Nat.le_trans o_t0.1 (Nat.le_add_right _ _))) (Eq.trans (r_sp d252_58 kS_1655) (Eq.trans (r_bp d252_61 kB_8) (Eq.trans (r_il_n d252_63 rfl) (Eq.trans (r_imul d252_64) (Eq.trans (r_iadd d252_65) (Eq.trans (r_il_n d252_66 rfl) (Eq.trans (r_iadd d252_67) (Eq.trans (r_al_n d252_68 rfl) (r_cvE (as := []) (r := [.int (((1655 : Int32) + ((8 : Int32) * x1)) + x2), .ref (t0 + 5)]) d252_69 c252_192 ow239 o_t0.2.1 np239.symm rfl (hs_fitE mL239 (Nat.le_of_ble_eq_true rfl))))))))))))) (r_rv d252_53 rt252))))
theorem b252_72 {t0 u0 n_u0 : Nat} {x1 x2 s1 s2 : Int32} (a_u0 : S[u0]? = some (.inr (.int, n_u0))) (o_t0 : ok11 S R t0) : hs_R scr (d + 1) 252 72 [some (.ref t0), some (.int x1), some (.int x2)] [.int s2, .int s1, .ref u0] (S, I, L, R) = (if hs_ib s1 n_u0 = true then ((hs_C scr d 209 [.ref t0] (S, (hs_u I u0 (Int32.toNatClampNeg s1) s2), L, R)).bind fun o => hs_R scr (d + 1) 252 80 [some (.ref t0), some (.int x1), some (.int (x2 + 1))] (o.1.toList ++ []) o.2) else none) := Eq.trans (r_iast d252_72 a_u0) (q_ite (Eq.trans (r_inc (loc' := [some (.ref t0), some (.int x1), some (.int (x2 + 1))]) d252_73 kI_1 rfl rfl) (Eq.trans (r_al_n d252_76 rfl) (r_cvE (as := []) (r := []) d252_77 c252_214 ow209 o_t0.2.1 np209.symm rfl (hs_fitE mL209 (Nat.le_of_ble_eq_true rfl))))) rfl)
theorem b252_80 {t0 : Nat} {x1 x2 : Int32}  : hs_R scr d 252 80 [some (.ref t0), some (.int x1), some (.int x2)] [] (S, I, L, R) = hs_R scr d 252 10 [some (.ref t0), some (.int x1), some (.int x2)] [] (S, I, L, R) := Eq.trans (r_goto d252_80 rfl) (rfl)
theorem b252_83 {t0 : Nat} {x1 x2 : Int32} (o_t0 : ok11 S R t0) : hs_R scr d 252 83 [some (.ref t0), some (.int x1), some (.int x2)] [] (S, I, L, R) = (if (I t0 12) = 0 then hs_R scr d 252 102 [some (.ref t0), some (.int x1), some (.int x2)] [] (S, (hs_u I (t0 + 5) 1599 ((I (t0 + 5) 1599) + 1)), L, R) else hs_R scr d 252 102 [some (.ref t0), some (.int x1), some (.int x2)] [] (S, I, L, R)) := Eq.trans (r_al_n d252_83 rfl) (Eq.trans (r_getI d252_84 f252_204 o_t0.2.1) (Eq.trans (r_zne d252_87 rfl) (q_ite (Eq.trans (r_al_n d252_90 rfl) (Eq.trans (r_getRe d252_91 f252_35 o_t0.2.1 (o_t0.2.2.2.2.2.2.2.2.2.2.1) (Nat.le_trans o_t0.1 (Nat.le_add_right _ _))) (Eq.trans (r_sp d252_94 kS_1599) (Eq.trans (r_dup2 d252_97 ⟨rfl, rfl⟩) (Eq.trans ((r_ialdC d252_98 (o_t0.2.2.2.2.2.2.2.2.2.2.2.1) ib_1599_1995 tn_1599)) (Eq.trans (r_ic d252_99 kI_1) (Eq.trans (r_iadd d252_100) (Eq.trans ((r_iastC d252_101 (o_t0.2.2.2.2.2.2.2.2.2.2.2.1) ib_1599_1995 tn_1599)) (rfl))))))))) (rfl))))
theorem b252_102 {t0 : Nat} {x1 x2 : Int32}  : hs_R scr d 252 102 [some (.ref t0), some (.int x1), some (.int x2)] [] (S, I, L, R) = some (none, (S, I, L, R)) := r_rv d252_102 rt252
end BB

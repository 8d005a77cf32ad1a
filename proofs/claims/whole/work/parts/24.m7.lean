/-! blocks: written by gen/mkblocks.py -/
theorem c349_505 : hs_cal (hs_own 349) 505 = some (0, 350) := by decide +kernel
theorem c349_508 : hs_cal (hs_own 349) 508 = some (0, 355) := by decide +kernel
theorem c349_511 : hs_cal (hs_own 349) 511 = some (0, 348) := by decide +kernel
theorem c350_364 : hs_cal (hs_own 350) 364 = some (0, 286) := by decide +kernel
theorem c350_378 : hs_cal (hs_own 350) 378 = some (0, 294) := by decide +kernel
theorem c350_482 : hs_cal (hs_own 350) 482 = some (0, 351) := by decide +kernel
theorem c350_485 : hs_cal (hs_own 350) 485 = some (0, 352) := by decide +kernel
theorem c350_489 : hs_cal (hs_own 350) 489 = some (0, 353) := by decide +kernel
theorem c351_361 : hs_cal (hs_own 351) 361 = some (0, 284) := by decide +kernel
theorem c352_370 : hs_cal (hs_own 352) 370 = some (0, 290) := by decide +kernel
theorem c352_375 : hs_cal (hs_own 352) 375 = some (0, 292) := by decide +kernel
theorem c353_479 : hs_cal (hs_own 353) 479 = some (0, 354) := by decide +kernel
theorem c355_394 : hs_cal (hs_own 355) 394 = some (0, 301) := by decide +kernel
theorem c356_95 : hs_cal (hs_own 356) 95 = some (1, 223) := by decide +kernel
theorem c356_322 : hs_cal (hs_own 356) 322 = some (0, 265) := by decide +kernel
theorem c357_75 : hs_cal (hs_own 357) 75 = some (0, 197) := by decide +kernel
theorem c357_95 : hs_cal (hs_own 357) 95 = some (1, 223) := by decide +kernel
theorem c357_334 : hs_cal (hs_own 357) 334 = some (0, 269) := by decide +kernel
theorem c357_462 : hs_cal (hs_own 357) 462 = some (0, 344) := by decide +kernel
theorem c357_519 : hs_cal (hs_own 357) 519 = some (0, 347) := by decide +kernel
theorem c358_302 : hs_cal (hs_own 358) 302 = some (0, 259) := by decide +kernel
theorem c358_322 : hs_cal (hs_own 358) 322 = some (0, 265) := by decide +kernel
theorem c359_302 : hs_cal (hs_own 359) 302 = some (0, 259) := by decide +kernel
theorem c359_322 : hs_cal (hs_own 359) 322 = some (0, 265) := by decide +kernel
theorem ci354_469 : hs_kI (hs_own 354) 469 = some 65536 := by decide +kernel
theorem cl356_408 : hs_kL (hs_own 356) 408 = some 4 := by decide +kernel
theorem cl357_439 : hs_kL (hs_own 357) 439 = some 20 := by decide +kernel
theorem d349_0 : decode (hs_code 349) 0 = .ok (.aload_n 0, 1) := by decide +kernel
theorem d349_1 : decode (hs_code 349) 1 = .ok (.getfield 492, 3) := by decide +kernel
theorem d349_4 : decode (hs_code 349) 4 = .ok (.sipush 300, 3) := by decide +kernel
theorem d349_7 : decode (hs_code 349) 7 = .ok (.if_icmp .ne 14, 3) := by decide +kernel
theorem d349_10 : decode (hs_code 349) 10 = .ok (.aload_n 0, 1) := by decide +kernel
theorem d349_11 : decode (hs_code 349) 11 = .ok (.iconst 1, 1) := by decide +kernel
theorem d349_12 : decode (hs_code 349) 12 = .ok (.putfield 495, 3) := by decide +kernel
theorem d349_15 : decode (hs_code 349) 15 = .ok (.aload_n 0, 1) := by decide +kernel
theorem d349_16 : decode (hs_code 349) 16 = .ok (.iconst 1, 1) := by decide +kernel
theorem d349_17 : decode (hs_code 349) 17 = .ok (.putfield 499, 3) := by decide +kernel
theorem d349_20 : decode (hs_code 349) 20 = .ok (.return_, 1) := by decide +kernel
theorem d349_21 : decode (hs_code 349) 21 = .ok (.aload_n 0, 1) := by decide +kernel
theorem d349_22 : decode (hs_code 349) 22 = .ok (.dup, 1) := by decide +kernel
theorem d349_23 : decode (hs_code 349) 23 = .ok (.getfield 492, 3) := by decide +kernel
theorem d349_26 : decode (hs_code 349) 26 = .ok (.iconst 1, 1) := by decide +kernel
theorem d349_27 : decode (hs_code 349) 27 = .ok (.iadd, 1) := by decide +kernel
theorem d349_28 : decode (hs_code 349) 28 = .ok (.putfield 492, 3) := by decide +kernel
theorem d349_31 : decode (hs_code 349) 31 = .ok (.sipush 129, 3) := by decide +kernel
theorem d349_34 : decode (hs_code 349) 34 = .ok (.bipush 9, 2) := by decide +kernel
theorem d349_36 : decode (hs_code 349) 36 = .ok (.iload_n 1, 1) := by decide +kernel
theorem d349_37 : decode (hs_code 349) 37 = .ok (.imul, 1) := by decide +kernel
theorem d349_38 : decode (hs_code 349) 38 = .ok (.iadd, 1) := by decide +kernel
theorem d349_39 : decode (hs_code 349) 39 = .ok (.istore_n 2, 1) := by decide +kernel
theorem d349_40 : decode (hs_code 349) 40 = .ok (.aload_n 0, 1) := by decide +kernel
theorem d349_41 : decode (hs_code 349) 41 = .ok (.getfield 35, 3) := by decide +kernel
theorem d349_44 : decode (hs_code 349) 44 = .ok (.iload_n 2, 1) := by decide +kernel
theorem d349_45 : decode (hs_code 349) 45 = .ok (.iaload, 1) := by decide +kernel
theorem d349_46 : decode (hs_code 349) 46 = .ok (.istore_n 3, 1) := by decide +kernel
theorem d349_47 : decode (hs_code 349) 47 = .ok (.iload_n 3, 1) := by decide +kernel
theorem d349_48 : decode (hs_code 349) 48 = .ok (.bipush 8, 2) := by decide +kernel
theorem d349_50 : decode (hs_code 349) 50 = .ok (.if_icmp .ge 28, 3) := by decide +kernel
theorem d349_53 : decode (hs_code 349) 53 = .ok (.aload_n 0, 1) := by decide +kernel
theorem d349_54 : decode (hs_code 349) 54 = .ok (.dup, 1) := by decide +kernel
theorem d349_55 : decode (hs_code 349) 55 = .ok (.getfield 502, 3) := by decide +kernel
theorem d349_58 : decode (hs_code 349) 58 = .ok (.aload_n 0, 1) := by decide +kernel
theorem d349_59 : decode (hs_code 349) 59 = .ok (.iload_n 2, 1) := by decide +kernel
theorem d349_60 : decode (hs_code 349) 60 = .ok (.invokevirtual 505, 3) := by decide +kernel
theorem d349_63 : decode (hs_code 349) 63 = .ok (.ifCond .eq 7, 3) := by decide +kernel
theorem d349_66 : decode (hs_code 349) 66 = .ok (.iconst 0, 1) := by decide +kernel
theorem d349_67 : decode (hs_code 349) 67 = .ok (.goto 4, 3) := by decide +kernel
theorem d349_70 : decode (hs_code 349) 70 = .ok (.iconst 1, 1) := by decide +kernel
theorem d349_71 : decode (hs_code 349) 71 = .ok (.iadd, 1) := by decide +kernel
theorem d349_72 : decode (hs_code 349) 72 = .ok (.putfield 502, 3) := by decide +kernel
theorem d349_75 : decode (hs_code 349) 75 = .ok (.goto 101, 3) := by decide +kernel
theorem d349_78 : decode (hs_code 349) 78 = .ok (.iload_n 3, 1) := by decide +kernel
theorem d349_79 : decode (hs_code 349) 79 = .ok (.bipush 8, 2) := by decide +kernel
theorem d349_81 : decode (hs_code 349) 81 = .ok (.if_icmp .ne 30, 3) := by decide +kernel
theorem d349_84 : decode (hs_code 349) 84 = .ok (.aload_n 0, 1) := by decide +kernel
theorem d349_85 : decode (hs_code 349) 85 = .ok (.iload_n 2, 1) := by decide +kernel
theorem d349_86 : decode (hs_code 349) 86 = .ok (.invokevirtual 508, 3) := by decide +kernel
theorem d349_89 : decode (hs_code 349) 89 = .ok (.ifCond .eq 22, 3) := by decide +kernel
theorem d349_92 : decode (hs_code 349) 92 = .ok (.aload_n 0, 1) := by decide +kernel
theorem d349_93 : decode (hs_code 349) 93 = .ok (.iload_n 1, 1) := by decide +kernel
theorem d349_94 : decode (hs_code 349) 94 = .ok (.iconst 1, 1) := by decide +kernel
theorem d349_95 : decode (hs_code 349) 95 = .ok (.iadd, 1) := by decide +kernel
theorem d349_96 : decode (hs_code 349) 96 = .ok (.aload_n 0, 1) := by decide +kernel
theorem d349_97 : decode (hs_code 349) 97 = .ok (.getfield 35, 3) := by decide +kernel
theorem d349_100 : decode (hs_code 349) 100 = .ok (.iload_n 2, 1) := by decide +kernel
theorem d349_101 : decode (hs_code 349) 101 = .ok (.bipush 8, 2) := by decide +kernel
theorem d349_103 : decode (hs_code 349) 103 = .ok (.iadd, 1) := by decide +kernel
theorem d349_104 : decode (hs_code 349) 104 = .ok (.iaload, 1) := by decide +kernel
theorem d349_105 : decode (hs_code 349) 105 = .ok (.invokevirtual 511, 3) := by decide +kernel
theorem d349_108 : decode (hs_code 349) 108 = .ok (.goto 68, 3) := by decide +kernel
theorem d349_111 : decode (hs_code 349) 111 = .ok (.iload_n 3, 1) := by decide +kernel
theorem d349_112 : decode (hs_code 349) 112 = .ok (.bipush 9, 2) := by decide +kernel
theorem d349_114 : decode (hs_code 349) 114 = .ok (.if_icmp .ne 51, 3) := by decide +kernel
theorem d349_117 : decode (hs_code 349) 117 = .ok (.iconst 0, 1) := by decide +kernel
theorem d349_118 : decode (hs_code 349) 118 = .ok (.istore 4, 2) := by decide +kernel
theorem d349_120 : decode (hs_code 349) 120 = .ok (.iload 4, 2) := by decide +kernel
theorem d349_122 : decode (hs_code 349) 122 = .ok (.aload_n 0, 1) := by decide +kernel
theorem d349_123 : decode (hs_code 349) 123 = .ok (.getfield 35, 3) := by decide +kernel
theorem d349_126 : decode (hs_code 349) 126 = .ok (.iload_n 2, 1) := by decide +kernel
theorem d349_127 : decode (hs_code 349) 127 = .ok (.iconst 1, 1) := by decide +kernel
theorem d349_128 : decode (hs_code 349) 128 = .ok (.iadd, 1) := by decide +kernel
theorem d349_129 : decode (hs_code 349) 129 = .ok (.iaload, 1) := by decide +kernel
theorem d349_130 : decode (hs_code 349) 130 = .ok (.if_icmp .ge 32, 3) := by decide +kernel
theorem d349_133 : decode (hs_code 349) 133 = .ok (.aload_n 0, 1) := by decide +kernel
theorem d349_134 : decode (hs_code 349) 134 = .ok (.getfield 495, 3) := by decide +kernel
theorem d349_137 : decode (hs_code 349) 137 = .ok (.ifCond .ne 25, 3) := by decide +kernel
theorem d349_140 : decode (hs_code 349) 140 = .ok (.aload_n 0, 1) := by decide +kernel
theorem d349_141 : decode (hs_code 349) 141 = .ok (.iload_n 1, 1) := by decide +kernel
theorem d349_142 : decode (hs_code 349) 142 = .ok (.iconst 1, 1) := by decide +kernel
theorem d349_143 : decode (hs_code 349) 143 = .ok (.iadd, 1) := by decide +kernel
theorem d349_144 : decode (hs_code 349) 144 = .ok (.aload_n 0, 1) := by decide +kernel
theorem d349_145 : decode (hs_code 349) 145 = .ok (.getfield 35, 3) := by decide +kernel
theorem d349_148 : decode (hs_code 349) 148 = .ok (.iload_n 2, 1) := by decide +kernel
theorem d349_149 : decode (hs_code 349) 149 = .ok (.bipush 8, 2) := by decide +kernel
theorem d349_151 : decode (hs_code 349) 151 = .ok (.iadd, 1) := by decide +kernel
theorem d349_152 : decode (hs_code 349) 152 = .ok (.iaload, 1) := by decide +kernel
theorem d349_153 : decode (hs_code 349) 153 = .ok (.invokevirtual 511, 3) := by decide +kernel
theorem d349_156 : decode (hs_code 349) 156 = .ok (.iinc 4 1, 3) := by decide +kernel
theorem d349_159 : decode (hs_code 349) 159 = .ok (.goto (-39), 3) := by decide +kernel
theorem d349_162 : decode (hs_code 349) 162 = .ok (.goto 14, 3) := by decide +kernel
theorem d349_165 : decode (hs_code 349) 165 = .ok (.iload_n 3, 1) := by decide +kernel
theorem d349_166 : decode (hs_code 349) 166 = .ok (.bipush 9, 2) := by decide +kernel
theorem d349_168 : decode (hs_code 349) 168 = .ok (.if_icmp .le 8, 3) := by decide +kernel
theorem d349_171 : decode (hs_code 349) 171 = .ok (.aload_n 0, 1) := by decide +kernel
theorem d349_172 : decode (hs_code 349) 172 = .ok (.iconst 1, 1) := by decide +kernel
theorem d349_173 : decode (hs_code 349) 173 = .ok (.putfield 495, 3) := by decide +kernel
theorem d349_176 : decode (hs_code 349) 176 = .ok (.return_, 1) := by decide +kernel
theorem d350_0 : decode (hs_code 350) 0 = .ok (.aload_n 0, 1) := by decide +kernel
theorem d350_1 : decode (hs_code 350) 1 = .ok (.getfield 35, 3) := by decide +kernel
theorem d350_4 : decode (hs_code 350) 4 = .ok (.iload_n 1, 1) := by decide +kernel
theorem d350_5 : decode (hs_code 350) 5 = .ok (.iaload, 1) := by decide +kernel
theorem d350_6 : decode (hs_code 350) 6 = .ok (.istore_n 2, 1) := by decide +kernel
theorem d350_7 : decode (hs_code 350) 7 = .ok (.iload_n 2, 1) := by decide +kernel
theorem d350_8 : decode (hs_code 350) 8 = .ok (.ifCond .ne 16, 3) := by decide +kernel
theorem d350_11 : decode (hs_code 350) 11 = .ok (.aload_n 0, 1) := by decide +kernel
theorem d350_12 : decode (hs_code 350) 12 = .ok (.aload_n 0, 1) := by decide +kernel
theorem d350_13 : decode (hs_code 350) 13 = .ok (.getfield 35, 3) := by decide +kernel
theorem d350_16 : decode (hs_code 350) 16 = .ok (.iload_n 1, 1) := by decide +kernel
theorem d350_17 : decode (hs_code 350) 17 = .ok (.iconst 1, 1) := by decide +kernel
theorem d350_18 : decode (hs_code 350) 18 = .ok (.iadd, 1) := by decide +kernel
theorem d350_19 : decode (hs_code 350) 19 = .ok (.iaload, 1) := by decide +kernel
theorem d350_20 : decode (hs_code 350) 20 = .ok (.invokevirtual 482, 3) := by decide +kernel
theorem d350_23 : decode (hs_code 350) 23 = .ok (.ireturn, 1) := by decide +kernel
theorem d350_24 : decode (hs_code 350) 24 = .ok (.iload_n 2, 1) := by decide +kernel
theorem d350_25 : decode (hs_code 350) 25 = .ok (.iconst 4, 1) := by decide +kernel
theorem d350_26 : decode (hs_code 350) 26 = .ok (.if_icmp .eq 8, 3) := by decide +kernel
theorem d350_29 : decode (hs_code 350) 29 = .ok (.iload_n 2, 1) := by decide +kernel
theorem d350_30 : decode (hs_code 350) 30 = .ok (.iconst 5, 1) := by decide +kernel
theorem d350_31 : decode (hs_code 350) 31 = .ok (.if_icmp .ne 34, 3) := by decide +kernel
theorem d350_34 : decode (hs_code 350) 34 = .ok (.aload_n 0, 1) := by decide +kernel
theorem d350_35 : decode (hs_code 350) 35 = .ok (.aload_n 0, 1) := by decide +kernel
theorem d350_36 : decode (hs_code 350) 36 = .ok (.getfield 35, 3) := by decide +kernel
theorem d350_39 : decode (hs_code 350) 39 = .ok (.iload_n 1, 1) := by decide +kernel
theorem d350_40 : decode (hs_code 350) 40 = .ok (.iconst 1, 1) := by decide +kernel
theorem d350_41 : decode (hs_code 350) 41 = .ok (.iadd, 1) := by decide +kernel
theorem d350_42 : decode (hs_code 350) 42 = .ok (.iaload, 1) := by decide +kernel
theorem d350_43 : decode (hs_code 350) 43 = .ok (.aload_n 0, 1) := by decide +kernel
theorem d350_44 : decode (hs_code 350) 44 = .ok (.getfield 35, 3) := by decide +kernel
theorem d350_47 : decode (hs_code 350) 47 = .ok (.iload_n 1, 1) := by decide +kernel
theorem d350_48 : decode (hs_code 350) 48 = .ok (.iconst 2, 1) := by decide +kernel
theorem d350_49 : decode (hs_code 350) 49 = .ok (.iadd, 1) := by decide +kernel
theorem d350_50 : decode (hs_code 350) 50 = .ok (.iaload, 1) := by decide +kernel
theorem d350_51 : decode (hs_code 350) 51 = .ok (.iload_n 2, 1) := by decide +kernel
theorem d350_52 : decode (hs_code 350) 52 = .ok (.iconst 5, 1) := by decide +kernel
theorem d350_53 : decode (hs_code 350) 53 = .ok (.if_icmp .ne 7, 3) := by decide +kernel
theorem d350_56 : decode (hs_code 350) 56 = .ok (.iconst 1, 1) := by decide +kernel
theorem d350_57 : decode (hs_code 350) 57 = .ok (.goto 4, 3) := by decide +kernel
theorem d350_60 : decode (hs_code 350) 60 = .ok (.iconst 0, 1) := by decide +kernel
theorem d350_61 : decode (hs_code 350) 61 = .ok (.invokevirtual 485, 3) := by decide +kernel
theorem d350_64 : decode (hs_code 350) 64 = .ok (.ireturn, 1) := by decide +kernel
theorem d350_65 : decode (hs_code 350) 65 = .ok (.iload_n 2, 1) := by decide +kernel
theorem d350_66 : decode (hs_code 350) 66 = .ok (.bipush 6, 2) := by decide +kernel
theorem d350_68 : decode (hs_code 350) 68 = .ok (.if_icmp .ne 8, 3) := by decide +kernel
theorem d350_71 : decode (hs_code 350) 71 = .ok (.aload_n 0, 1) := by decide +kernel
theorem d350_72 : decode (hs_code 350) 72 = .ok (.invokevirtual 378, 3) := by decide +kernel
theorem d350_75 : decode (hs_code 350) 75 = .ok (.ireturn, 1) := by decide +kernel
theorem d350_76 : decode (hs_code 350) 76 = .ok (.iload_n 2, 1) := by decide +kernel
theorem d350_77 : decode (hs_code 350) 77 = .ok (.bipush 7, 2) := by decide +kernel
theorem d350_79 : decode (hs_code 350) 79 = .ok (.if_icmp .ne 8, 3) := by decide +kernel
theorem d350_82 : decode (hs_code 350) 82 = .ok (.aload_n 0, 1) := by decide +kernel
theorem d350_83 : decode (hs_code 350) 83 = .ok (.invokevirtual 489, 3) := by decide +kernel
theorem d350_86 : decode (hs_code 350) 86 = .ok (.ireturn, 1) := by decide +kernel
theorem d350_87 : decode (hs_code 350) 87 = .ok (.iload_n 2, 1) := by decide +kernel
theorem d350_88 : decode (hs_code 350) 88 = .ok (.iconst 3, 1) := by decide +kernel
theorem d350_89 : decode (hs_code 350) 89 = .ok (.if_icmp .eq 20, 3) := by decide +kernel
theorem d350_92 : decode (hs_code 350) 92 = .ok (.aload_n 0, 1) := by decide +kernel
theorem d350_93 : decode (hs_code 350) 93 = .ok (.bipush 9, 2) := by decide +kernel
theorem d350_95 : decode (hs_code 350) 95 = .ok (.iload_n 2, 1) := by decide +kernel
theorem d350_96 : decode (hs_code 350) 96 = .ok (.iconst 1, 1) := by decide +kernel
theorem d350_97 : decode (hs_code 350) 97 = .ok (.if_icmp .ne 7, 3) := by decide +kernel
theorem d350_100 : decode (hs_code 350) 100 = .ok (.iconst 1, 1) := by decide +kernel
theorem d350_101 : decode (hs_code 350) 101 = .ok (.goto 4, 3) := by decide +kernel
theorem d350_104 : decode (hs_code 350) 104 = .ok (.iconst 0, 1) := by decide +kernel
theorem d350_105 : decode (hs_code 350) 105 = .ok (.invokevirtual 364, 3) := by decide +kernel
theorem d350_108 : decode (hs_code 350) 108 = .ok (.ireturn, 1) := by decide +kernel
theorem d350_109 : decode (hs_code 350) 109 = .ok (.aload_n 0, 1) := by decide +kernel
theorem d350_110 : decode (hs_code 350) 110 = .ok (.getfield 35, 3) := by decide +kernel
theorem d350_113 : decode (hs_code 350) 113 = .ok (.bipush 34, 2) := by decide +kernel
theorem d350_115 : decode (hs_code 350) 115 = .ok (.aload_n 0, 1) := by decide +kernel
theorem d350_116 : decode (hs_code 350) 116 = .ok (.getfield 35, 3) := by decide +kernel
theorem d350_119 : decode (hs_code 350) 119 = .ok (.iload_n 1, 1) := by decide +kernel
theorem d350_120 : decode (hs_code 350) 120 = .ok (.iconst 1, 1) := by decide +kernel
theorem d350_121 : decode (hs_code 350) 121 = .ok (.iadd, 1) := by decide +kernel
theorem d350_122 : decode (hs_code 350) 122 = .ok (.iaload, 1) := by decide +kernel
theorem d350_123 : decode (hs_code 350) 123 = .ok (.iadd, 1) := by decide +kernel
theorem d350_124 : decode (hs_code 350) 124 = .ok (.aload_n 0, 1) := by decide +kernel
theorem d350_125 : decode (hs_code 350) 125 = .ok (.getfield 35, 3) := by decide +kernel
theorem d350_128 : decode (hs_code 350) 128 = .ok (.iload_n 1, 1) := by decide +kernel
theorem d350_129 : decode (hs_code 350) 129 = .ok (.iconst 2, 1) := by decide +kernel
theorem d350_130 : decode (hs_code 350) 130 = .ok (.iadd, 1) := by decide +kernel
theorem d350_131 : decode (hs_code 350) 131 = .ok (.iaload, 1) := by decide +kernel
theorem d350_132 : decode (hs_code 350) 132 = .ok (.iastore, 1) := by decide +kernel
theorem d350_133 : decode (hs_code 350) 133 = .ok (.iconst 1, 1) := by decide +kernel
theorem d350_134 : decode (hs_code 350) 134 = .ok (.ireturn, 1) := by decide +kernel
theorem d351_0 : decode (hs_code 351) 0 = .ok (.aload_n 0, 1) := by decide +kernel
theorem d351_1 : decode (hs_code 351) 1 = .ok (.getfield 35, 3) := by decide +kernel
theorem d351_4 : decode (hs_code 351) 4 = .ok (.bipush 8, 2) := by decide +kernel
theorem d351_6 : decode (hs_code 351) 6 = .ok (.iaload, 1) := by decide +kernel
theorem d351_7 : decode (hs_code 351) 7 = .ok (.iload_n 1, 1) := by decide +kernel
theorem d351_8 : decode (hs_code 351) 8 = .ok (.iadd, 1) := by decide +kernel
theorem d351_9 : decode (hs_code 351) 9 = .ok (.sipush 9999, 3) := by decide +kernel
theorem d351_12 : decode (hs_code 351) 12 = .ok (.if_icmp .le 5, 3) := by decide +kernel
theorem d351_15 : decode (hs_code 351) 15 = .ok (.iconst 0, 1) := by decide +kernel
theorem d351_16 : decode (hs_code 351) 16 = .ok (.ireturn, 1) := by decide +kernel
theorem d351_17 : decode (hs_code 351) 17 = .ok (.iconst 0, 1) := by decide +kernel
theorem d351_18 : decode (hs_code 351) 18 = .ok (.istore_n 2, 1) := by decide +kernel
theorem d351_19 : decode (hs_code 351) 19 = .ok (.iload_n 2, 1) := by decide +kernel
theorem d351_20 : decode (hs_code 351) 20 = .ok (.iload_n 1, 1) := by decide +kernel
theorem d351_21 : decode (hs_code 351) 21 = .ok (.if_icmp .ge 13, 3) := by decide +kernel
theorem d351_24 : decode (hs_code 351) 24 = .ok (.aload_n 0, 1) := by decide +kernel
theorem d351_25 : decode (hs_code 351) 25 = .ok (.invokevirtual 361, 3) := by decide +kernel
theorem d351_28 : decode (hs_code 351) 28 = .ok (.iinc 2 1, 3) := by decide +kernel
theorem d351_31 : decode (hs_code 351) 31 = .ok (.goto (-12), 3) := by decide +kernel
theorem d351_34 : decode (hs_code 351) 34 = .ok (.aload_n 0, 1) := by decide +kernel
theorem d351_35 : decode (hs_code 351) 35 = .ok (.dup, 1) := by decide +kernel
theorem d351_36 : decode (hs_code 351) 36 = .ok (.getfield 470, 3) := by decide +kernel
theorem d351_39 : decode (hs_code 351) 39 = .ok (.iload_n 1, 1) := by decide +kernel
theorem d351_40 : decode (hs_code 351) 40 = .ok (.iadd, 1) := by decide +kernel
theorem d351_41 : decode (hs_code 351) 41 = .ok (.putfield 470, 3) := by decide +kernel
theorem d351_44 : decode (hs_code 351) 44 = .ok (.iconst 1, 1) := by decide +kernel
theorem d351_45 : decode (hs_code 351) 45 = .ok (.ireturn, 1) := by decide +kernel
theorem d352_0 : decode (hs_code 352) 0 = .ok (.iload_n 2, 1) := by decide +kernel
theorem d352_1 : decode (hs_code 352) 1 = .ok (.aload_n 0, 1) := by decide +kernel
theorem d352_2 : decode (hs_code 352) 2 = .ok (.getfield 35, 3) := by decide +kernel
theorem d352_5 : decode (hs_code 352) 5 = .ok (.bipush 10, 2) := by decide +kernel
theorem d352_7 : decode (hs_code 352) 7 = .ok (.iload_n 1, 1) := by decide +kernel
theorem d352_8 : decode (hs_code 352) 8 = .ok (.iadd, 1) := by decide +kernel
theorem d352_9 : decode (hs_code 352) 9 = .ok (.iaload, 1) := by decide +kernel
theorem d352_10 : decode (hs_code 352) 10 = .ok (.if_icmp .ge 16, 3) := by decide +kernel
theorem d352_13 : decode (hs_code 352) 13 = .ok (.iload_n 3, 1) := by decide +kernel
theorem d352_14 : decode (hs_code 352) 14 = .ok (.ifCond .eq 14, 3) := by decide +kernel
theorem d352_17 : decode (hs_code 352) 17 = .ok (.aload_n 0, 1) := by decide +kernel
theorem d352_18 : decode (hs_code 352) 18 = .ok (.iload_n 1, 1) := by decide +kernel
theorem d352_19 : decode (hs_code 352) 19 = .ok (.iload_n 2, 1) := by decide +kernel
theorem d352_20 : decode (hs_code 352) 20 = .ok (.invokevirtual 375, 3) := by decide +kernel
theorem d352_23 : decode (hs_code 352) 23 = .ok (.ifCond .gt 5, 3) := by decide +kernel
theorem d352_26 : decode (hs_code 352) 26 = .ok (.iconst 0, 1) := by decide +kernel
theorem d352_27 : decode (hs_code 352) 27 = .ok (.ireturn, 1) := by decide +kernel
theorem d352_28 : decode (hs_code 352) 28 = .ok (.aload_n 0, 1) := by decide +kernel
theorem d352_29 : decode (hs_code 352) 29 = .ok (.dup, 1) := by decide +kernel
theorem d352_30 : decode (hs_code 352) 30 = .ok (.getfield 473, 3) := by decide +kernel
theorem d352_33 : decode (hs_code 352) 33 = .ok (.aload_n 0, 1) := by decide +kernel
theorem d352_34 : decode (hs_code 352) 34 = .ok (.iload_n 1, 1) := by decide +kernel
theorem d352_35 : decode (hs_code 352) 35 = .ok (.iload_n 2, 1) := by decide +kernel
theorem d352_36 : decode (hs_code 352) 36 = .ok (.invokevirtual 370, 3) := by decide +kernel
theorem d352_39 : decode (hs_code 352) 39 = .ok (.iadd, 1) := by decide +kernel
theorem d352_40 : decode (hs_code 352) 40 = .ok (.putfield 473, 3) := by decide +kernel
theorem d352_43 : decode (hs_code 352) 43 = .ok (.aload_n 0, 1) := by decide +kernel
theorem d352_44 : decode (hs_code 352) 44 = .ok (.dup, 1) := by decide +kernel
theorem d352_45 : decode (hs_code 352) 45 = .ok (.getfield 476, 3) := by decide +kernel
theorem d352_48 : decode (hs_code 352) 48 = .ok (.iload_n 3, 1) := by decide +kernel
theorem d352_49 : decode (hs_code 352) 49 = .ok (.ifCond .eq 7, 3) := by decide +kernel
theorem d352_52 : decode (hs_code 352) 52 = .ok (.iconst 1, 1) := by decide +kernel
theorem d352_53 : decode (hs_code 352) 53 = .ok (.goto 4, 3) := by decide +kernel
theorem d352_56 : decode (hs_code 352) 56 = .ok (.iconst 0, 1) := by decide +kernel
theorem d352_57 : decode (hs_code 352) 57 = .ok (.iadd, 1) := by decide +kernel
theorem d352_58 : decode (hs_code 352) 58 = .ok (.putfield 476, 3) := by decide +kernel
theorem d352_61 : decode (hs_code 352) 61 = .ok (.iconst 1, 1) := by decide +kernel
theorem d352_62 : decode (hs_code 352) 62 = .ok (.ireturn, 1) := by decide +kernel
theorem d353_0 : decode (hs_code 353) 0 = .ok (.aload_n 0, 1) := by decide +kernel
theorem d353_1 : decode (hs_code 353) 1 = .ok (.getfield 35, 3) := by decide +kernel
theorem d353_4 : decode (hs_code 353) 4 = .ok (.iconst 0, 1) := by decide +kernel
theorem d353_5 : decode (hs_code 353) 5 = .ok (.iaload, 1) := by decide +kernel
theorem d353_6 : decode (hs_code 353) 6 = .ok (.ifCond .ne 5, 3) := by decide +kernel
theorem d353_9 : decode (hs_code 353) 9 = .ok (.iconst 0, 1) := by decide +kernel
theorem d353_10 : decode (hs_code 353) 10 = .ok (.ireturn, 1) := by decide +kernel
theorem d353_11 : decode (hs_code 353) 11 = .ok (.aload_n 0, 1) := by decide +kernel
theorem d353_12 : decode (hs_code 353) 12 = .ok (.aload_n 0, 1) := by decide +kernel
theorem d353_13 : decode (hs_code 353) 13 = .ok (.getfield 35, 3) := by decide +kernel
theorem d353_16 : decode (hs_code 353) 16 = .ok (.iconst 0, 1) := by decide +kernel
theorem d353_17 : decode (hs_code 353) 17 = .ok (.iaload, 1) := by decide +kernel
theorem d353_18 : decode (hs_code 353) 18 = .ok (.invokevirtual 479, 3) := by decide +kernel
theorem d353_21 : decode (hs_code 353) 21 = .ok (.istore_n 1, 1) := by decide +kernel
theorem d353_22 : decode (hs_code 353) 22 = .ok (.aload_n 0, 1) := by decide +kernel
theorem d353_23 : decode (hs_code 353) 23 = .ok (.getfield 35, 3) := by decide +kernel
theorem d353_26 : decode (hs_code 353) 26 = .ok (.bipush 26, 2) := by decide +kernel
theorem d353_28 : decode (hs_code 353) 28 = .ok (.iload_n 1, 1) := by decide +kernel
theorem d353_29 : decode (hs_code 353) 29 = .ok (.iadd, 1) := by decide +kernel
theorem d353_30 : decode (hs_code 353) 30 = .ok (.aload_n 0, 1) := by decide +kernel
theorem d353_31 : decode (hs_code 353) 31 = .ok (.iconst 3, 1) := by decide +kernel
theorem d353_32 : decode (hs_code 353) 32 = .ok (.invokevirtual 479, 3) := by decide +kernel
theorem d353_35 : decode (hs_code 353) 35 = .ok (.iastore, 1) := by decide +kernel
theorem d353_36 : decode (hs_code 353) 36 = .ok (.iconst 1, 1) := by decide +kernel
theorem d353_37 : decode (hs_code 353) 37 = .ok (.ireturn, 1) := by decide +kernel
theorem d354_0 : decode (hs_code 354) 0 = .ok (.aload_n 0, 1) := by decide +kernel
theorem d354_1 : decode (hs_code 354) 1 = .ok (.aload_n 0, 1) := by decide +kernel
theorem d354_2 : decode (hs_code 354) 2 = .ok (.getfield 466, 3) := by decide +kernel
theorem d354_5 : decode (hs_code 354) 5 = .ok (.sipush 2971, 3) := by decide +kernel
theorem d354_8 : decode (hs_code 354) 8 = .ok (.imul, 1) := by decide +kernel
theorem d354_9 : decode (hs_code 354) 9 = .ok (.sipush 10837, 3) := by decide +kernel
theorem d354_12 : decode (hs_code 354) 12 = .ok (.iadd, 1) := by decide +kernel
theorem d354_13 : decode (hs_code 354) 13 = .ok (.ldc_w 469, 3) := by decide +kernel
theorem d354_16 : decode (hs_code 354) 16 = .ok (.irem, 1) := by decide +kernel
theorem d354_17 : decode (hs_code 354) 17 = .ok (.putfield 466, 3) := by decide +kernel
theorem d354_20 : decode (hs_code 354) 20 = .ok (.aload_n 0, 1) := by decide +kernel
theorem d354_21 : decode (hs_code 354) 21 = .ok (.getfield 466, 3) := by decide +kernel
theorem d354_24 : decode (hs_code 354) 24 = .ok (.bipush 8, 2) := by decide +kernel
theorem d354_26 : decode (hs_code 354) 26 = .ok (.idiv, 1) := by decide +kernel
theorem d354_27 : decode (hs_code 354) 27 = .ok (.iload_n 1, 1) := by decide +kernel
theorem d354_28 : decode (hs_code 354) 28 = .ok (.irem, 1) := by decide +kernel
theorem d354_29 : decode (hs_code 354) 29 = .ok (.ireturn, 1) := by decide +kernel
theorem d355_0 : decode (hs_code 355) 0 = .ok (.aload_n 0, 1) := by decide +kernel
theorem d355_1 : decode (hs_code 355) 1 = .ok (.getfield 35, 3) := by decide +kernel
theorem d355_4 : decode (hs_code 355) 4 = .ok (.iload_n 1, 1) := by decide +kernel
theorem d355_5 : decode (hs_code 355) 5 = .ok (.bipush 6, 2) := by decide +kernel
theorem d355_7 : decode (hs_code 355) 7 = .ok (.iadd, 1) := by decide +kernel
theorem d355_8 : decode (hs_code 355) 8 = .ok (.iaload, 1) := by decide +kernel
theorem d355_9 : decode (hs_code 355) 9 = .ok (.istore_n 2, 1) := by decide +kernel
theorem d355_10 : decode (hs_code 355) 10 = .ok (.iload_n 2, 1) := by decide +kernel
theorem d355_11 : decode (hs_code 355) 11 = .ok (.iconst 2, 1) := by decide +kernel
theorem d355_12 : decode (hs_code 355) 12 = .ok (.if_icmp .ne 20, 3) := by decide +kernel
theorem d355_15 : decode (hs_code 355) 15 = .ok (.aload_n 0, 1) := by decide +kernel
theorem d355_16 : decode (hs_code 355) 16 = .ok (.getfield 35, 3) := by decide +kernel
theorem d355_19 : decode (hs_code 355) 19 = .ok (.bipush 9, 2) := by decide +kernel
theorem d355_21 : decode (hs_code 355) 21 = .ok (.iaload, 1) := by decide +kernel
theorem d355_22 : decode (hs_code 355) 22 = .ok (.iconst 1, 1) := by decide +kernel
theorem d355_23 : decode (hs_code 355) 23 = .ok (.if_icmp .ne 7, 3) := by decide +kernel
theorem d355_26 : decode (hs_code 355) 26 = .ok (.iconst 1, 1) := by decide +kernel
theorem d355_27 : decode (hs_code 355) 27 = .ok (.goto 4, 3) := by decide +kernel
theorem d355_30 : decode (hs_code 355) 30 = .ok (.iconst 0, 1) := by decide +kernel
theorem d355_31 : decode (hs_code 355) 31 = .ok (.ireturn, 1) := by decide +kernel
theorem d355_32 : decode (hs_code 355) 32 = .ok (.iload_n 2, 1) := by decide +kernel
theorem d355_33 : decode (hs_code 355) 33 = .ok (.ifCond .ne 24, 3) := by decide +kernel
theorem d355_36 : decode (hs_code 355) 36 = .ok (.aload_n 0, 1) := by decide +kernel
theorem d355_37 : decode (hs_code 355) 37 = .ok (.aload_n 0, 1) := by decide +kernel
theorem d355_38 : decode (hs_code 355) 38 = .ok (.getfield 35, 3) := by decide +kernel
theorem d355_41 : decode (hs_code 355) 41 = .ok (.iload_n 1, 1) := by decide +kernel
theorem d355_42 : decode (hs_code 355) 42 = .ok (.iconst 1, 1) := by decide +kernel
theorem d355_43 : decode (hs_code 355) 43 = .ok (.iadd, 1) := by decide +kernel
theorem d355_44 : decode (hs_code 355) 44 = .ok (.iaload, 1) := by decide +kernel
theorem d355_45 : decode (hs_code 355) 45 = .ok (.invokevirtual 394, 3) := by decide +kernel
theorem d355_48 : decode (hs_code 355) 48 = .ok (.ifCond .ne 7, 3) := by decide +kernel
theorem d355_51 : decode (hs_code 355) 51 = .ok (.iconst 1, 1) := by decide +kernel
theorem d355_52 : decode (hs_code 355) 52 = .ok (.goto 4, 3) := by decide +kernel
theorem d355_55 : decode (hs_code 355) 55 = .ok (.iconst 0, 1) := by decide +kernel
theorem d355_56 : decode (hs_code 355) 56 = .ok (.ireturn, 1) := by decide +kernel
theorem d355_57 : decode (hs_code 355) 57 = .ok (.aload_n 0, 1) := by decide +kernel
theorem d355_58 : decode (hs_code 355) 58 = .ok (.getfield 35, 3) := by decide +kernel
theorem d355_61 : decode (hs_code 355) 61 = .ok (.bipush 10, 2) := by decide +kernel
theorem d355_63 : decode (hs_code 355) 63 = .ok (.aload_n 0, 1) := by decide +kernel
theorem d355_64 : decode (hs_code 355) 64 = .ok (.getfield 35, 3) := by decide +kernel
theorem d355_67 : decode (hs_code 355) 67 = .ok (.iload_n 1, 1) := by decide +kernel
theorem d355_68 : decode (hs_code 355) 68 = .ok (.iconst 1, 1) := by decide +kernel
theorem d355_69 : decode (hs_code 355) 69 = .ok (.iadd, 1) := by decide +kernel
theorem d355_70 : decode (hs_code 355) 70 = .ok (.iaload, 1) := by decide +kernel
theorem d355_71 : decode (hs_code 355) 71 = .ok (.iadd, 1) := by decide +kernel
theorem d355_72 : decode (hs_code 355) 72 = .ok (.iaload, 1) := by decide +kernel
theorem d355_73 : decode (hs_code 355) 73 = .ok (.istore_n 3, 1) := by decide +kernel
theorem d355_74 : decode (hs_code 355) 74 = .ok (.aload_n 0, 1) := by decide +kernel
theorem d355_75 : decode (hs_code 355) 75 = .ok (.getfield 35, 3) := by decide +kernel
theorem d355_78 : decode (hs_code 355) 78 = .ok (.iload_n 1, 1) := by decide +kernel
theorem d355_79 : decode (hs_code 355) 79 = .ok (.bipush 7, 2) := by decide +kernel
theorem d355_81 : decode (hs_code 355) 81 = .ok (.iadd, 1) := by decide +kernel
theorem d355_82 : decode (hs_code 355) 82 = .ok (.iaload, 1) := by decide +kernel
theorem d355_83 : decode (hs_code 355) 83 = .ok (.bipush 60, 2) := by decide +kernel
theorem d355_85 : decode (hs_code 355) 85 = .ok (.if_icmp .ne 23, 3) := by decide +kernel
theorem d355_88 : decode (hs_code 355) 88 = .ok (.iload_n 3, 1) := by decide +kernel
theorem d355_89 : decode (hs_code 355) 89 = .ok (.aload_n 0, 1) := by decide +kernel
theorem d355_90 : decode (hs_code 355) 90 = .ok (.getfield 35, 3) := by decide +kernel
theorem d355_93 : decode (hs_code 355) 93 = .ok (.iload_n 1, 1) := by decide +kernel
theorem d355_94 : decode (hs_code 355) 94 = .ok (.iconst 2, 1) := by decide +kernel
theorem d355_95 : decode (hs_code 355) 95 = .ok (.iadd, 1) := by decide +kernel
theorem d355_96 : decode (hs_code 355) 96 = .ok (.iaload, 1) := by decide +kernel
theorem d355_97 : decode (hs_code 355) 97 = .ok (.if_icmp .ge 7, 3) := by decide +kernel
theorem d355_100 : decode (hs_code 355) 100 = .ok (.iconst 1, 1) := by decide +kernel
theorem d355_101 : decode (hs_code 355) 101 = .ok (.goto 58, 3) := by decide +kernel
theorem d355_104 : decode (hs_code 355) 104 = .ok (.iconst 0, 1) := by decide +kernel
theorem d355_105 : decode (hs_code 355) 105 = .ok (.goto 54, 3) := by decide +kernel
theorem d355_108 : decode (hs_code 355) 108 = .ok (.aload_n 0, 1) := by decide +kernel
theorem d355_109 : decode (hs_code 355) 109 = .ok (.getfield 35, 3) := by decide +kernel
theorem d355_112 : decode (hs_code 355) 112 = .ok (.iload_n 1, 1) := by decide +kernel
theorem d355_113 : decode (hs_code 355) 113 = .ok (.bipush 7, 2) := by decide +kernel
theorem d355_115 : decode (hs_code 355) 115 = .ok (.iadd, 1) := by decide +kernel
theorem d355_116 : decode (hs_code 355) 116 = .ok (.iaload, 1) := by decide +kernel
theorem d355_117 : decode (hs_code 355) 117 = .ok (.bipush 62, 2) := by decide +kernel
theorem d355_119 : decode (hs_code 355) 119 = .ok (.if_icmp .ne 23, 3) := by decide +kernel
theorem d355_122 : decode (hs_code 355) 122 = .ok (.iload_n 3, 1) := by decide +kernel
theorem d355_123 : decode (hs_code 355) 123 = .ok (.aload_n 0, 1) := by decide +kernel
theorem d355_124 : decode (hs_code 355) 124 = .ok (.getfield 35, 3) := by decide +kernel
theorem d355_127 : decode (hs_code 355) 127 = .ok (.iload_n 1, 1) := by decide +kernel
theorem d355_128 : decode (hs_code 355) 128 = .ok (.iconst 2, 1) := by decide +kernel
theorem d355_129 : decode (hs_code 355) 129 = .ok (.iadd, 1) := by decide +kernel
theorem d355_130 : decode (hs_code 355) 130 = .ok (.iaload, 1) := by decide +kernel
theorem d355_131 : decode (hs_code 355) 131 = .ok (.if_icmp .le 7, 3) := by decide +kernel
theorem d355_134 : decode (hs_code 355) 134 = .ok (.iconst 1, 1) := by decide +kernel
theorem d355_135 : decode (hs_code 355) 135 = .ok (.goto 24, 3) := by decide +kernel
theorem d355_138 : decode (hs_code 355) 138 = .ok (.iconst 0, 1) := by decide +kernel
theorem d355_139 : decode (hs_code 355) 139 = .ok (.goto 20, 3) := by decide +kernel
theorem d355_142 : decode (hs_code 355) 142 = .ok (.iload_n 3, 1) := by decide +kernel
theorem d355_143 : decode (hs_code 355) 143 = .ok (.aload_n 0, 1) := by decide +kernel
theorem d355_144 : decode (hs_code 355) 144 = .ok (.getfield 35, 3) := by decide +kernel
theorem d355_147 : decode (hs_code 355) 147 = .ok (.iload_n 1, 1) := by decide +kernel
theorem d355_148 : decode (hs_code 355) 148 = .ok (.iconst 2, 1) := by decide +kernel
theorem d355_149 : decode (hs_code 355) 149 = .ok (.iadd, 1) := by decide +kernel
theorem d355_150 : decode (hs_code 355) 150 = .ok (.iaload, 1) := by decide +kernel
theorem d355_151 : decode (hs_code 355) 151 = .ok (.if_icmp .ne 7, 3) := by decide +kernel
theorem d355_154 : decode (hs_code 355) 154 = .ok (.iconst 1, 1) := by decide +kernel
theorem d355_155 : decode (hs_code 355) 155 = .ok (.goto 4, 3) := by decide +kernel
theorem d355_158 : decode (hs_code 355) 158 = .ok (.iconst 0, 1) := by decide +kernel
theorem d355_159 : decode (hs_code 355) 159 = .ok (.ireturn, 1) := by decide +kernel
theorem d356_0 : decode (hs_code 356) 0 = .ok (.aload_n 0, 1) := by decide +kernel
theorem d356_1 : decode (hs_code 356) 1 = .ok (.iconst 0, 1) := by decide +kernel
theorem d356_2 : decode (hs_code 356) 2 = .ok (.putfield 60, 3) := by decide +kernel
theorem d356_5 : decode (hs_code 356) 5 = .ok (.aload_n 0, 1) := by decide +kernel
theorem d356_6 : decode (hs_code 356) 6 = .ok (.iconst 0, 1) := by decide +kernel
theorem d356_7 : decode (hs_code 356) 7 = .ok (.putfield 63, 3) := by decide +kernel
theorem d356_10 : decode (hs_code 356) 10 = .ok (.iload_n 1, 1) := by decide +kernel
theorem d356_11 : decode (hs_code 356) 11 = .ok (.i2l, 1) := by decide +kernel
theorem d356_12 : decode (hs_code 356) 12 = .ok (.lconst 0, 1) := by decide +kernel
theorem d356_13 : decode (hs_code 356) 13 = .ok (.ldc2_w 408, 3) := by decide +kernel
theorem d356_16 : decode (hs_code 356) 16 = .ok (.invokestatic 95, 3) := by decide +kernel
theorem d356_19 : decode (hs_code 356) 19 = .ok (.ifCond .ne 9, 3) := by decide +kernel
theorem d356_22 : decode (hs_code 356) 22 = .ok (.aload_n 0, 1) := by decide +kernel
theorem d356_23 : decode (hs_code 356) 23 = .ok (.iconst 5, 1) := by decide +kernel
theorem d356_24 : decode (hs_code 356) 24 = .ok (.invokevirtual 322, 3) := by decide +kernel
theorem d356_27 : decode (hs_code 356) 27 = .ok (.ireturn, 1) := by decide +kernel
theorem d356_28 : decode (hs_code 356) 28 = .ok (.aload_n 0, 1) := by decide +kernel
theorem d356_29 : decode (hs_code 356) 29 = .ok (.getfield 522, 3) := by decide +kernel
theorem d356_32 : decode (hs_code 356) 32 = .ok (.ifCond .eq 12, 3) := by decide +kernel
theorem d356_35 : decode (hs_code 356) 35 = .ok (.aload_n 0, 1) := by decide +kernel
theorem d356_36 : decode (hs_code 356) 36 = .ok (.getfield 53, 3) := by decide +kernel
theorem d356_39 : decode (hs_code 356) 39 = .ok (.iload_n 1, 1) := by decide +kernel
theorem d356_40 : decode (hs_code 356) 40 = .ok (.iaload, 1) := by decide +kernel
theorem d356_41 : decode (hs_code 356) 41 = .ok (.goto 9, 3) := by decide +kernel
theorem d356_44 : decode (hs_code 356) 44 = .ok (.aload_n 0, 1) := by decide +kernel
theorem d356_45 : decode (hs_code 356) 45 = .ok (.bipush 8, 2) := by decide +kernel
theorem d356_47 : decode (hs_code 356) 47 = .ok (.invokevirtual 322, 3) := by decide +kernel
theorem d356_50 : decode (hs_code 356) 50 = .ok (.ireturn, 1) := by decide +kernel
theorem d357_0 : decode (hs_code 357) 0 = .ok (.aload_n 0, 1) := by decide +kernel
theorem d357_1 : decode (hs_code 357) 1 = .ok (.iconst 0, 1) := by decide +kernel
theorem d357_2 : decode (hs_code 357) 2 = .ok (.putfield 60, 3) := by decide +kernel
theorem d357_5 : decode (hs_code 357) 5 = .ok (.aload_n 0, 1) := by decide +kernel
theorem d357_6 : decode (hs_code 357) 6 = .ok (.iconst 0, 1) := by decide +kernel
theorem d357_7 : decode (hs_code 357) 7 = .ok (.putfield 63, 3) := by decide +kernel
theorem d357_10 : decode (hs_code 357) 10 = .ok (.iload_n 2, 1) := by decide +kernel
theorem d357_11 : decode (hs_code 357) 11 = .ok (.i2l, 1) := by decide +kernel
theorem d357_12 : decode (hs_code 357) 12 = .ok (.lconst 1, 1) := by decide +kernel
theorem d357_13 : decode (hs_code 357) 13 = .ok (.ldc2_w 439, 3) := by decide +kernel
theorem d357_16 : decode (hs_code 357) 16 = .ok (.invokestatic 95, 3) := by decide +kernel
theorem d357_19 : decode (hs_code 357) 19 = .ok (.ifCond .eq 18, 3) := by decide +kernel
theorem d357_22 : decode (hs_code 357) 22 = .ok (.iload_n 1, 1) := by decide +kernel
theorem d357_23 : decode (hs_code 357) 23 = .ok (.i2l, 1) := by decide +kernel
theorem d357_24 : decode (hs_code 357) 24 = .ok (.lconst 0, 1) := by decide +kernel
theorem d357_25 : decode (hs_code 357) 25 = .ok (.sipush 10000, 3) := by decide +kernel
theorem d357_28 : decode (hs_code 357) 28 = .ok (.iload_n 2, 1) := by decide +kernel
theorem d357_29 : decode (hs_code 357) 29 = .ok (.isub, 1) := by decide +kernel
theorem d357_30 : decode (hs_code 357) 30 = .ok (.i2l, 1) := by decide +kernel
theorem d357_31 : decode (hs_code 357) 31 = .ok (.invokestatic 95, 3) := by decide +kernel
theorem d357_34 : decode (hs_code 357) 34 = .ok (.ifCond .ne 9, 3) := by decide +kernel
theorem d357_37 : decode (hs_code 357) 37 = .ok (.aload_n 0, 1) := by decide +kernel
theorem d357_38 : decode (hs_code 357) 38 = .ok (.iconst 5, 1) := by decide +kernel
theorem d357_39 : decode (hs_code 357) 39 = .ok (.invokevirtual 75, 3) := by decide +kernel
theorem d357_42 : decode (hs_code 357) 42 = .ok (.ireturn, 1) := by decide +kernel
theorem d357_43 : decode (hs_code 357) 43 = .ok (.aload_n 0, 1) := by decide +kernel
theorem d357_44 : decode (hs_code 357) 44 = .ok (.getfield 35, 3) := by decide +kernel
theorem d357_47 : decode (hs_code 357) 47 = .ok (.bipush 127, 2) := by decide +kernel
theorem d357_49 : decode (hs_code 357) 49 = .ok (.iaload, 1) := by decide +kernel
theorem d357_50 : decode (hs_code 357) 50 = .ok (.ifCond .ne 10, 3) := by decide +kernel
theorem d357_53 : decode (hs_code 357) 53 = .ok (.aload_n 0, 1) := by decide +kernel
theorem d357_54 : decode (hs_code 357) 54 = .ok (.bipush 8, 2) := by decide +kernel
theorem d357_56 : decode (hs_code 357) 56 = .ok (.invokevirtual 75, 3) := by decide +kernel
theorem d357_59 : decode (hs_code 357) 59 = .ok (.ireturn, 1) := by decide +kernel
theorem d357_60 : decode (hs_code 357) 60 = .ok (.iconst 0, 1) := by decide +kernel
theorem d357_61 : decode (hs_code 357) 61 = .ok (.istore_n 3, 1) := by decide +kernel
theorem d357_62 : decode (hs_code 357) 62 = .ok (.iload_n 3, 1) := by decide +kernel
theorem d357_63 : decode (hs_code 357) 63 = .ok (.bipush 127, 2) := by decide +kernel
theorem d357_65 : decode (hs_code 357) 65 = .ok (.if_icmp .ge 21, 3) := by decide +kernel
theorem d357_68 : decode (hs_code 357) 68 = .ok (.aload_n 0, 1) := by decide +kernel
theorem d357_69 : decode (hs_code 357) 69 = .ok (.getfield 41, 3) := by decide +kernel
theorem d357_72 : decode (hs_code 357) 72 = .ok (.iload_n 3, 1) := by decide +kernel
theorem d357_73 : decode (hs_code 357) 73 = .ok (.aload_n 0, 1) := by decide +kernel
theorem d357_74 : decode (hs_code 357) 74 = .ok (.getfield 35, 3) := by decide +kernel
theorem d357_77 : decode (hs_code 357) 77 = .ok (.iload_n 3, 1) := by decide +kernel
theorem d357_78 : decode (hs_code 357) 78 = .ok (.iaload, 1) := by decide +kernel
theorem d357_79 : decode (hs_code 357) 79 = .ok (.iastore, 1) := by decide +kernel
theorem d357_80 : decode (hs_code 357) 80 = .ok (.iinc 3 1, 3) := by decide +kernel
theorem d357_83 : decode (hs_code 357) 83 = .ok (.goto (-21), 3) := by decide +kernel
theorem d357_86 : decode (hs_code 357) 86 = .ok (.lconst 0, 1) := by decide +kernel
theorem d357_87 : decode (hs_code 357) 87 = .ok (.lstore_n 3, 1) := by decide +kernel
theorem d357_88 : decode (hs_code 357) 88 = .ok (.iconst 0, 1) := by decide +kernel
theorem d357_89 : decode (hs_code 357) 89 = .ok (.istore 5, 2) := by decide +kernel
theorem d357_91 : decode (hs_code 357) 91 = .ok (.iload 5, 2) := by decide +kernel
theorem d357_93 : decode (hs_code 357) 93 = .ok (.iload_n 2, 1) := by decide +kernel
theorem d357_94 : decode (hs_code 357) 94 = .ok (.if_icmp .ge 62, 3) := by decide +kernel
theorem d357_97 : decode (hs_code 357) 97 = .ok (.aload_n 0, 1) := by decide +kernel
theorem d357_98 : decode (hs_code 357) 98 = .ok (.iload_n 1, 1) := by decide +kernel
theorem d357_99 : decode (hs_code 357) 99 = .ok (.iload 5, 2) := by decide +kernel
theorem d357_101 : decode (hs_code 357) 101 = .ok (.iadd, 1) := by decide +kernel
theorem d357_102 : decode (hs_code 357) 102 = .ok (.invokevirtual 519, 3) := by decide +kernel
theorem d357_105 : decode (hs_code 357) 105 = .ok (.lload_n 3, 1) := by decide +kernel
theorem d357_106 : decode (hs_code 357) 106 = .ok (.aload_n 0, 1) := by decide +kernel
theorem d357_107 : decode (hs_code 357) 107 = .ok (.iconst 0, 1) := by decide +kernel
theorem d357_108 : decode (hs_code 357) 108 = .ok (.aload_n 0, 1) := by decide +kernel
theorem d357_109 : decode (hs_code 357) 109 = .ok (.getfield 35, 3) := by decide +kernel
theorem d357_112 : decode (hs_code 357) 112 = .ok (.iconst 0, 1) := by decide +kernel
theorem d357_113 : decode (hs_code 357) 113 = .ok (.iaload, 1) := by decide +kernel
theorem d357_114 : decode (hs_code 357) 114 = .ok (.invokevirtual 334, 3) := by decide +kernel
theorem d357_117 : decode (hs_code 357) 117 = .ok (.i2l, 1) := by decide +kernel
theorem d357_118 : decode (hs_code 357) 118 = .ok (.ladd, 1) := by decide +kernel
theorem d357_119 : decode (hs_code 357) 119 = .ok (.lstore_n 3, 1) := by decide +kernel
theorem d357_120 : decode (hs_code 357) 120 = .ok (.iconst 0, 1) := by decide +kernel
theorem d357_121 : decode (hs_code 357) 121 = .ok (.istore 6, 2) := by decide +kernel
theorem d357_123 : decode (hs_code 357) 123 = .ok (.iload 6, 2) := by decide +kernel
theorem d357_125 : decode (hs_code 357) 125 = .ok (.bipush 127, 2) := by decide +kernel
theorem d357_127 : decode (hs_code 357) 127 = .ok (.if_icmp .ge 23, 3) := by decide +kernel
theorem d357_130 : decode (hs_code 357) 130 = .ok (.aload_n 0, 1) := by decide +kernel
theorem d357_131 : decode (hs_code 357) 131 = .ok (.getfield 35, 3) := by decide +kernel
theorem d357_134 : decode (hs_code 357) 134 = .ok (.iload 6, 2) := by decide +kernel
theorem d357_136 : decode (hs_code 357) 136 = .ok (.aload_n 0, 1) := by decide +kernel
theorem d357_137 : decode (hs_code 357) 137 = .ok (.getfield 41, 3) := by decide +kernel
theorem d357_140 : decode (hs_code 357) 140 = .ok (.iload 6, 2) := by decide +kernel
theorem d357_142 : decode (hs_code 357) 142 = .ok (.iaload, 1) := by decide +kernel
theorem d357_143 : decode (hs_code 357) 143 = .ok (.iastore, 1) := by decide +kernel
theorem d357_144 : decode (hs_code 357) 144 = .ok (.iinc 6 1, 3) := by decide +kernel
theorem d357_147 : decode (hs_code 357) 147 = .ok (.goto (-24), 3) := by decide +kernel
theorem d357_150 : decode (hs_code 357) 150 = .ok (.iinc 5 1, 3) := by decide +kernel
theorem d357_153 : decode (hs_code 357) 153 = .ok (.goto (-62), 3) := by decide +kernel
theorem d357_156 : decode (hs_code 357) 156 = .ok (.aload_n 0, 1) := by decide +kernel
theorem d357_157 : decode (hs_code 357) 157 = .ok (.lload_n 3, 1) := by decide +kernel
theorem d357_158 : decode (hs_code 357) 158 = .ok (.iload_n 2, 1) := by decide +kernel
theorem d357_159 : decode (hs_code 357) 159 = .ok (.i2l, 1) := by decide +kernel
theorem d357_160 : decode (hs_code 357) 160 = .ok (.invokevirtual 462, 3) := by decide +kernel
theorem d357_163 : decode (hs_code 357) 163 = .ok (.ireturn, 1) := by decide +kernel
theorem d358_0 : decode (hs_code 358) 0 = .ok (.aload_n 0, 1) := by decide +kernel
theorem d358_1 : decode (hs_code 358) 1 = .ok (.iconst 0, 1) := by decide +kernel
theorem d358_2 : decode (hs_code 358) 2 = .ok (.putfield 60, 3) := by decide +kernel
theorem d358_5 : decode (hs_code 358) 5 = .ok (.aload_n 0, 1) := by decide +kernel
theorem d358_6 : decode (hs_code 358) 6 = .ok (.iconst 0, 1) := by decide +kernel
theorem d358_7 : decode (hs_code 358) 7 = .ok (.putfield 63, 3) := by decide +kernel
theorem d358_10 : decode (hs_code 358) 10 = .ok (.aload_n 0, 1) := by decide +kernel
theorem d358_11 : decode (hs_code 358) 11 = .ok (.getfield 525, 3) := by decide +kernel
theorem d358_14 : decode (hs_code 358) 14 = .ok (.iconst 3, 1) := by decide +kernel
theorem d358_15 : decode (hs_code 358) 15 = .ok (.if_icmp .ne 10, 3) := by decide +kernel
theorem d358_18 : decode (hs_code 358) 18 = .ok (.aload_n 0, 1) := by decide +kernel
theorem d358_19 : decode (hs_code 358) 19 = .ok (.bipush 7, 2) := by decide +kernel
theorem d358_21 : decode (hs_code 358) 21 = .ok (.invokevirtual 322, 3) := by decide +kernel
theorem d358_24 : decode (hs_code 358) 24 = .ok (.ireturn, 1) := by decide +kernel
theorem d358_25 : decode (hs_code 358) 25 = .ok (.aload_n 0, 1) := by decide +kernel
theorem d358_26 : decode (hs_code 358) 26 = .ok (.dup, 1) := by decide +kernel
theorem d358_27 : decode (hs_code 358) 27 = .ok (.getfield 525, 3) := by decide +kernel
theorem d358_30 : decode (hs_code 358) 30 = .ok (.iconst 1, 1) := by decide +kernel
theorem d358_31 : decode (hs_code 358) 31 = .ok (.iadd, 1) := by decide +kernel
theorem d358_32 : decode (hs_code 358) 32 = .ok (.putfield 525, 3) := by decide +kernel
theorem d358_35 : decode (hs_code 358) 35 = .ok (.aload_n 0, 1) := by decide +kernel
theorem d358_36 : decode (hs_code 358) 36 = .ok (.iconst 0, 1) := by decide +kernel
theorem d358_37 : decode (hs_code 358) 37 = .ok (.aload_n 0, 1) := by decide +kernel
theorem d358_38 : decode (hs_code 358) 38 = .ok (.getfield 525, 3) := by decide +kernel
theorem d358_41 : decode (hs_code 358) 41 = .ok (.invokevirtual 302, 3) := by decide +kernel
theorem d358_44 : decode (hs_code 358) 44 = .ok (.aload_n 0, 1) := by decide +kernel
theorem d358_45 : decode (hs_code 358) 45 = .ok (.getfield 525, 3) := by decide +kernel
theorem d358_48 : decode (hs_code 358) 48 = .ok (.ireturn, 1) := by decide +kernel
theorem d359_0 : decode (hs_code 359) 0 = .ok (.aload_n 0, 1) := by decide +kernel
theorem d359_1 : decode (hs_code 359) 1 = .ok (.iconst 0, 1) := by decide +kernel
theorem d359_2 : decode (hs_code 359) 2 = .ok (.putfield 60, 3) := by decide +kernel
theorem d359_5 : decode (hs_code 359) 5 = .ok (.aload_n 0, 1) := by decide +kernel
theorem d359_6 : decode (hs_code 359) 6 = .ok (.iconst 0, 1) := by decide +kernel
theorem d359_7 : decode (hs_code 359) 7 = .ok (.putfield 63, 3) := by decide +kernel
theorem d359_10 : decode (hs_code 359) 10 = .ok (.aload_n 0, 1) := by decide +kernel
theorem d359_11 : decode (hs_code 359) 11 = .ok (.getfield 525, 3) := by decide +kernel
theorem d359_14 : decode (hs_code 359) 14 = .ok (.ifCond .ne 10, 3) := by decide +kernel
theorem d359_17 : decode (hs_code 359) 17 = .ok (.aload_n 0, 1) := by decide +kernel
theorem d359_18 : decode (hs_code 359) 18 = .ok (.bipush 8, 2) := by decide +kernel
theorem d359_20 : decode (hs_code 359) 20 = .ok (.invokevirtual 322, 3) := by decide +kernel
theorem d359_23 : decode (hs_code 359) 23 = .ok (.ireturn, 1) := by decide +kernel
theorem d359_24 : decode (hs_code 359) 24 = .ok (.aload_n 0, 1) := by decide +kernel
theorem d359_25 : decode (hs_code 359) 25 = .ok (.aload_n 0, 1) := by decide +kernel
theorem d359_26 : decode (hs_code 359) 26 = .ok (.getfield 525, 3) := by decide +kernel
theorem d359_29 : decode (hs_code 359) 29 = .ok (.iconst 0, 1) := by decide +kernel
theorem d359_30 : decode (hs_code 359) 30 = .ok (.invokevirtual 302, 3) := by decide +kernel
theorem d359_33 : decode (hs_code 359) 33 = .ok (.aload_n 0, 1) := by decide +kernel
theorem d359_34 : decode (hs_code 359) 34 = .ok (.dup, 1) := by decide +kernel
theorem d359_35 : decode (hs_code 359) 35 = .ok (.getfield 525, 3) := by decide +kernel
theorem d359_38 : decode (hs_code 359) 38 = .ok (.iconst 1, 1) := by decide +kernel
theorem d359_39 : decode (hs_code 359) 39 = .ok (.isub, 1) := by decide +kernel
theorem d359_40 : decode (hs_code 359) 40 = .ok (.putfield 525, 3) := by decide +kernel
theorem d359_43 : decode (hs_code 359) 43 = .ok (.aload_n 0, 1) := by decide +kernel
theorem d359_44 : decode (hs_code 359) 44 = .ok (.getfield 525, 3) := by decide +kernel
theorem d359_47 : decode (hs_code 359) 47 = .ok (.ireturn, 1) := by decide +kernel
theorem f349_35 : hs_fld (hs_own 349) 35 = some (11, 20, 3, 1) := by decide +kernel
theorem f349_492 : hs_fld (hs_own 349) 492 = some (11, 34, 0, 0) := by decide +kernel
theorem f349_495 : hs_fld (hs_own 349) 495 = some (11, 32, 1, 0) := by decide +kernel
theorem f349_499 : hs_fld (hs_own 349) 499 = some (11, 39, 0, 0) := by decide +kernel
theorem f349_502 : hs_fld (hs_own 349) 502 = some (11, 35, 0, 0) := by decide +kernel
theorem f350_35 : hs_fld (hs_own 350) 35 = some (11, 20, 3, 1) := by decide +kernel
theorem f351_35 : hs_fld (hs_own 351) 35 = some (11, 20, 3, 1) := by decide +kernel
theorem f351_470 : hs_fld (hs_own 351) 470 = some (11, 36, 0, 0) := by decide +kernel
theorem f352_35 : hs_fld (hs_own 352) 35 = some (11, 20, 3, 1) := by decide +kernel
theorem f352_473 : hs_fld (hs_own 352) 473 = some (11, 37, 0, 0) := by decide +kernel
theorem f352_476 : hs_fld (hs_own 352) 476 = some (11, 38, 0, 0) := by decide +kernel
theorem f353_35 : hs_fld (hs_own 353) 35 = some (11, 20, 3, 1) := by decide +kernel
theorem f354_466 : hs_fld (hs_own 354) 466 = some (11, 33, 0, 0) := by decide +kernel
theorem f355_35 : hs_fld (hs_own 355) 35 = some (11, 20, 3, 1) := by decide +kernel
theorem f356_53 : hs_fld (hs_own 356) 53 = some (11, 30, 3, 1) := by decide +kernel
theorem f356_60 : hs_fld (hs_own 356) 60 = some (11, 1, 0, 0) := by decide +kernel
theorem f356_63 : hs_fld (hs_own 356) 63 = some (11, 0, 0, 0) := by decide +kernel
theorem f356_522 : hs_fld (hs_own 356) 522 = some (11, 31, 1, 0) := by decide +kernel
theorem f357_35 : hs_fld (hs_own 357) 35 = some (11, 20, 3, 1) := by decide +kernel
theorem f357_41 : hs_fld (hs_own 357) 41 = some (11, 22, 3, 1) := by decide +kernel
theorem f357_60 : hs_fld (hs_own 357) 60 = some (11, 1, 0, 0) := by decide +kernel
theorem f357_63 : hs_fld (hs_own 357) 63 = some (11, 0, 0, 0) := by decide +kernel
theorem f358_60 : hs_fld (hs_own 358) 60 = some (11, 1, 0, 0) := by decide +kernel
theorem f358_63 : hs_fld (hs_own 358) 63 = some (11, 0, 0, 0) := by decide +kernel
theorem f358_525 : hs_fld (hs_own 358) 525 = some (11, 24, 0, 0) := by decide +kernel
theorem f359_60 : hs_fld (hs_own 359) 60 = some (11, 1, 0, 0) := by decide +kernel
theorem f359_63 : hs_fld (hs_own 359) 63 = some (11, 0, 0, 0) := by decide +kernel
theorem f359_525 : hs_fld (hs_own 359) 525 = some (11, 24, 0, 0) := by decide +kernel
theorem rt349 : hs_ret 349 = none := by decide +kernel
theorem rt350 : hs_ret 350 = (some .boolean) := by decide +kernel
theorem rt351 : hs_ret 351 = (some .boolean) := by decide +kernel
theorem rt352 : hs_ret 352 = (some .boolean) := by decide +kernel
theorem rt353 : hs_ret 353 = (some .boolean) := by decide +kernel
theorem rt354 : hs_ret 354 = (some .int) := by decide +kernel
theorem rt355 : hs_ret 355 = (some .boolean) := by decide +kernel
theorem rt356 : hs_ret 356 = (some .int) := by decide +kernel
theorem rt357 : hs_ret 357 = (some .boolean) := by decide +kernel
theorem rt358 : hs_ret 358 = (some .int) := by decide +kernel
theorem rt359 : hs_ret 359 = (some .int) := by decide +kernel
section BB
variable {scr : List Int32} {d : Nat} {h : hs_H} {S : List hs_S} {I : Nat → Nat → Int32} {L : Nat → Nat → Int64} {R : Nat → Nat → Nat}
theorem e349 {t0 : Nat} {x1 : Int32} : hs_C scr d 349 [.ref t0, .int x1] h = hs_R scr d 349 0 [some (.ref t0), some (.int x1), none, none, none] [] h := by rw [hs_C, mL349]; rfl
theorem b349_0 {t0 : Nat} {x1 : Int32} (o_t0 : ok11 S R t0) : hs_R scr (d + 1) 349 0 [some (.ref t0), some (.int x1), none, none, none] [] (S, I, L, R) = (if (I t0 34) = 300 then some (none, (S, (hs_u (hs_u I t0 32 1) t0 39 1), L, R)) else (if hs_ib ((129 : Int32) + ((9 : Int32) * x1)) 1995 = true then (if (8 : Int32) ≤ ((hs_u I t0 34 ((I t0 34) + 1)) (t0 + 5) (Int32.toNatClampNeg ((129 : Int32) + ((9 : Int32) * x1)))) then (if ((hs_u I t0 34 ((I t0 34) + 1)) (t0 + 5) (Int32.toNatClampNeg ((129 : Int32) + ((9 : Int32) * x1)))) = 8 then ((hs_C scr d 355 [.ref t0, .int ((129 : Int32) + ((9 : Int32) * x1))] (S, (hs_u I t0 34 ((I t0 34) + 1)), L, R)).bind fun o => hs_R scr (d + 1) 349 89 [some (.ref t0), some (.int x1), some (.int ((129 : Int32) + ((9 : Int32) * x1))), some (.int ((hs_u I t0 34 ((I t0 34) + 1)) (t0 + 5) (Int32.toNatClampNeg ((129 : Int32) + ((9 : Int32) * x1))))), none] (o.1.toList ++ []) o.2) else hs_R scr (d + 1) 349 111 [some (.ref t0), some (.int x1), some (.int ((129 : Int32) + ((9 : Int32) * x1))), some (.int ((hs_u I t0 34 ((I t0 34) + 1)) (t0 + 5) (Int32.toNatClampNeg ((129 : Int32) + ((9 : Int32) * x1))))), none] [] (S, (hs_u I t0 34 ((I t0 34) + 1)), L, R)) else ((hs_C scr d 350 [.ref t0, .int ((129 : Int32) + ((9 : Int32) * x1))] (S, (hs_u I t0 34 ((I t0 34) + 1)), L, R)).bind fun o => hs_R scr (d + 1) 349 63 [some (.ref t0), some (.int x1), some (.int ((129 : Int32) + ((9 : Int32) * x1))), some (.int ((hs_u I t0 34 ((I t0 34) + 1)) (t0 + 5) (Int32.toNatClampNeg ((129 : Int32) + ((9 : Int32) * x1))))), none] (o.1.toList ++ [.int ((hs_u I t0 34 ((I t0 34) + 1)) t0 35), .ref t0]) o.2)) else none)) := Eq.trans (r_al_n d349_0 rfl) (Eq.trans (r_getI d349_1 f349_492 o_t0.2.1) (Eq.trans (r_sp d349_4 kS_300) (Eq.trans (r_cne d349_7 rfl) (q_ite (Eq.trans (r_al_n d349_10 rfl) (Eq.trans (r_ic d349_11 kI_1) (Eq.trans ((r_putZ d349_12 f349_495 o_t0.2.1).trans (if_pos (Or.inr rfl))) (Eq.trans (r_al_n d349_15 rfl) (Eq.trans (r_ic d349_16 kI_1) (Eq.trans (r_putI d349_17 f349_499 o_t0.2.1) (r_rv d349_20 rt349))))))) (Eq.trans (r_al_n d349_21 rfl) (Eq.trans (r_dup d349_22 rfl) (Eq.trans (r_getI d349_23 f349_492 o_t0.2.1) (Eq.trans (r_ic d349_26 kI_1) (Eq.trans (r_iadd d349_27) (Eq.trans (r_putI d349_28 f349_492 o_t0.2.1) (Eq.trans (r_sp d349_31 kS_129) (Eq.trans (r_bp d349_34 kB_9) (Eq.trans (r_il_n d349_36 rfl) (Eq.trans (r_imul d349_37) (Eq.trans (r_iadd d349_38) (Eq.trans (r_is_n (loc' := [some (.ref t0), some (.int x1), some (.int ((129 : Int32) + ((9 : Int32) * x1))), none, none]) d349_39 rfl) (Eq.trans (r_al_n d349_40 rfl) (Eq.trans (r_getRe d349_41 f349_35 o_t0.2.1 (o_t0.2.2.2.2.2.2.2.2.2.2.1) (Nat.le_trans o_t0.1 (Nat.le_add_right _ _))) (Eq.trans (r_il_n d349_44 rfl) (Eq.trans (r_iald d349_45 (o_t0.2.2.2.2.2.2.2.2.2.2.2.1)) (q_ite (Eq.trans (r_is_n (loc' := [some (.ref t0), some (.int x1), some (.int ((129 : Int32) + ((9 : Int32) * x1))), some (.int ((hs_u I t0 34 ((I t0 34) + 1)) (t0 + 5) (Int32.toNatClampNeg ((129 : Int32) + ((9 : Int32) * x1))))), none]) d349_46 rfl) (Eq.trans (r_il_n d349_47 rfl) (Eq.trans (r_bp d349_48 kB_8) (Eq.trans (r_cge d349_50 rfl) (q_ite (Eq.trans (r_il_n d349_78 rfl) (Eq.trans (r_bp d349_79 kB_8) (Eq.trans (r_cne d349_81 rfl) (q_ite (Eq.trans (r_al_n d349_84 rfl) (Eq.trans (r_il_n d349_85 rfl) (r_cvE (as := [.int ((129 : Int32) + ((9 : Int32) * x1))]) (r := []) d349_86 c349_508 ow355 o_t0.2.1 np355.symm rfl (hs_fitE mL355 (Nat.le_of_ble_eq_true rfl))))) (rfl))))) (Eq.trans (r_al_n d349_53 rfl) (Eq.trans (r_dup d349_54 rfl) (Eq.trans (r_getI d349_55 f349_502 o_t0.2.1) (Eq.trans (r_al_n d349_58 rfl) (Eq.trans (r_il_n d349_59 rfl) (r_cvE (as := [.int ((129 : Int32) + ((9 : Int32) * x1))]) (r := [.int ((hs_u I t0 34 ((I t0 34) + 1)) t0 35), .ref t0]) d349_60 c349_505 ow350 o_t0.2.1 np350.symm rfl (hs_fitE mL350 (Nat.le_of_ble_eq_true rfl))))))))))))) rfl)))))))))))))))))))))
theorem b349_63 {t0 u0 : Nat} {x1 x2 x3 s1 s2 : Int32}  : hs_R scr d 349 63 [some (.ref t0), some (.int x1), some (.int x2), some (.int x3), none] [.int s2, .int s1, .ref u0] (S, I, L, R) = (if s2 = 0 then hs_R scr d 349 71 [some (.ref t0), some (.int x1), some (.int x2), some (.int x3), none] [.int 1, .int s1, .ref u0] (S, I, L, R) else hs_R scr d 349 71 [some (.ref t0), some (.int x1), some (.int x2), some (.int x3), none] [.int 0, .int s1, .ref u0] (S, I, L, R)) := Eq.trans (r_zeq d349_63 rfl) (q_ite (Eq.trans (r_ic d349_70 kI_1) (rfl)) (Eq.trans (r_ic d349_66 kI_0) (Eq.trans (r_goto d349_67 rfl) (rfl))))
theorem b349_71 {t0 u0 : Nat} {x1 x2 x3 s1 s2 : Int32} (o_u0 : ok11 S R u0) : hs_R scr d 349 71 [some (.ref t0), some (.int x1), some (.int x2), some (.int x3), none] [.int s2, .int s1, .ref u0] (S, I, L, R) = hs_R scr d 349 176 [some (.ref t0), some (.int x1), some (.int x2), some (.int x3), none] [] (S, (hs_u I u0 35 (s1 + s2)), L, R) := Eq.trans (r_iadd d349_71) (Eq.trans (r_putI d349_72 f349_502 o_u0.2.1) (Eq.trans (r_goto d349_75 rfl) (rfl)))
theorem b349_89 {t0 : Nat} {x1 x2 x3 s0 : Int32} (o_t0 : ok11 S R t0) : hs_R scr (d + 1) 349 89 [some (.ref t0), some (.int x1), some (.int x2), some (.int x3), none] [.int s0] (S, I, L, R) = (if s0 = 0 then hs_R scr (d + 1) 349 111 [some (.ref t0), some (.int x1), some (.int x2), some (.int x3), none] [] (S, I, L, R) else (if hs_ib (x2 + 8) 1995 = true then ((hs_C scr d 348 [.ref t0, .int (x1 + 1), .int (I (t0 + 5) (Int32.toNatClampNeg (x2 + 8)))] (S, I, L, R)).bind fun o => hs_R scr (d + 1) 349 108 [some (.ref t0), some (.int x1), some (.int x2), some (.int x3), none] (o.1.toList ++ []) o.2) else none)) := Eq.trans (r_zeq d349_89 rfl) (q_ite (rfl) (Eq.trans (r_al_n d349_92 rfl) (Eq.trans (r_il_n d349_93 rfl) (Eq.trans (r_ic d349_94 kI_1) (Eq.trans (r_iadd d349_95) (Eq.trans (r_al_n d349_96 rfl) (Eq.trans (r_getRe d349_97 f349_35 o_t0.2.1 (o_t0.2.2.2.2.2.2.2.2.2.2.1) (Nat.le_trans o_t0.1 (Nat.le_add_right _ _))) (Eq.trans (r_il_n d349_100 rfl) (Eq.trans (r_bp d349_101 kB_8) (Eq.trans (r_iadd d349_103) (Eq.trans (r_iald d349_104 (o_t0.2.2.2.2.2.2.2.2.2.2.2.1)) (q_ite (r_cvE (as := [.int (x1 + 1), .int (I (t0 + 5) (Int32.toNatClampNeg (x2 + 8)))]) (r := []) d349_105 c349_511 ow348 o_t0.2.1 np348.symm rfl (hs_fitE mL348 (Nat.le_of_ble_eq_true rfl))) rfl))))))))))))
theorem b349_108 {t0 : Nat} {x1 x2 x3 : Int32}  : hs_R scr d 349 108 [some (.ref t0), some (.int x1), some (.int x2), some (.int x3), none] [] (S, I, L, R) = hs_R scr d 349 176 [some (.ref t0), some (.int x1), some (.int x2), some (.int x3), none] [] (S, I, L, R) := Eq.trans (r_goto d349_108 rfl) (rfl)
theorem b349_111 {t0 : Nat} {x1 x2 x3 : Int32} (o_t0 : ok11 S R t0) : hs_R scr d 349 111 [some (.ref t0), some (.int x1), some (.int x2), some (.int x3), none] [] (S, I, L, R) = (if x3 = 9 then hs_R scr d 349 120 [some (.ref t0), some (.int x1), some (.int x2), some (.int x3), some (.int 0)] [] (S, I, L, R) else (if x3 ≤ 9 then hs_R scr d 349 176 [some (.ref t0), some (.int x1), some (.int x2), some (.int x3), none] [] (S, I, L, R) else hs_R scr d 349 176 [some (.ref t0), some (.int x1), some (.int x2), some (.int x3), none] [] (S, (hs_u I t0 32 1), L, R))) := Eq.trans (r_il_n d349_111 rfl) (Eq.trans (r_bp d349_112 kB_9) (Eq.trans (r_cne d349_114 rfl) (q_ite (Eq.trans (r_ic d349_117 kI_0) (Eq.trans (r_is (loc' := [some (.ref t0), some (.int x1), some (.int x2), some (.int x3), some (.int 0)]) d349_118 rfl) (rfl))) (Eq.trans (r_il_n d349_165 rfl) (Eq.trans (r_bp d349_166 kB_9) (Eq.trans (r_cle d349_168 rfl) (q_ite (rfl) (Eq.trans (r_al_n d349_171 rfl) (Eq.trans (r_ic d349_172 kI_1) (Eq.trans ((r_putZ d349_173 f349_495 o_t0.2.1).trans (if_pos (Or.inr rfl))) (rfl)))))))))))
theorem b349_120 {t0 : Nat} {x1 x2 x3 x4 : Int32} (o_t0 : ok11 S R t0) : hs_R scr (d + 1) 349 120 [some (.ref t0), some (.int x1), some (.int x2), some (.int x3), some (.int x4)] [] (S, I, L, R) = (if hs_ib (x2 + 1) 1995 = true then (if (I (t0 + 5) (Int32.toNatClampNeg (x2 + 1))) ≤ x4 then hs_R scr (d + 1) 349 162 [some (.ref t0), some (.int x1), some (.int x2), some (.int x3), some (.int x4)] [] (S, I, L, R) else (if (I t0 32) = 0 then (if hs_ib (x2 + 8) 1995 = true then ((hs_C scr d 348 [.ref t0, .int (x1 + 1), .int (I (t0 + 5) (Int32.toNatClampNeg (x2 + 8)))] (S, I, L, R)).bind fun o => hs_R scr (d + 1) 349 156 [some (.ref t0), some (.int x1), some (.int x2), some (.int x3), some (.int x4)] (o.1.toList ++ []) o.2) else none) else hs_R scr (d + 1) 349 162 [some (.ref t0), some (.int x1), some (.int x2), some (.int x3), some (.int x4)] [] (S, I, L, R))) else none) := Eq.trans (r_il d349_120 rfl) (Eq.trans (r_al_n d349_122 rfl) (Eq.trans (r_getRe d349_123 f349_35 o_t0.2.1 (o_t0.2.2.2.2.2.2.2.2.2.2.1) (Nat.le_trans o_t0.1 (Nat.le_add_right _ _))) (Eq.trans (r_il_n d349_126 rfl) (Eq.trans (r_ic d349_127 kI_1) (Eq.trans (r_iadd d349_128) (Eq.trans (r_iald d349_129 (o_t0.2.2.2.2.2.2.2.2.2.2.2.1)) (q_ite (Eq.trans (r_cge d349_130 rfl) (q_ite (rfl) (Eq.trans (r_al_n d349_133 rfl) (Eq.trans (r_getZ d349_134 f349_495 o_t0.2.1) (Eq.trans (r_zne d349_137 rfl) (q_ite (Eq.trans (r_al_n d349_140 rfl) (Eq.trans (r_il_n d349_141 rfl) (Eq.trans (r_ic d349_142 kI_1) (Eq.trans (r_iadd d349_143) (Eq.trans (r_al_n d349_144 rfl) (Eq.trans (r_getRe d349_145 f349_35 o_t0.2.1 (o_t0.2.2.2.2.2.2.2.2.2.2.1) (Nat.le_trans o_t0.1 (Nat.le_add_right _ _))) (Eq.trans (r_il_n d349_148 rfl) (Eq.trans (r_bp d349_149 kB_8) (Eq.trans (r_iadd d349_151) (Eq.trans (r_iald d349_152 (o_t0.2.2.2.2.2.2.2.2.2.2.2.1)) (q_ite (r_cvE (as := [.int (x1 + 1), .int (I (t0 + 5) (Int32.toNatClampNeg (x2 + 8)))]) (r := []) d349_153 c349_511 ow348 o_t0.2.1 np348.symm rfl (hs_fitE mL348 (Nat.le_of_ble_eq_true rfl))) rfl))))))))))) (rfl))))))) rfl)))))))
theorem b349_156 {t0 : Nat} {x1 x2 x3 x4 : Int32}  : hs_R scr d 349 156 [some (.ref t0), some (.int x1), some (.int x2), some (.int x3), some (.int x4)] [] (S, I, L, R) = hs_R scr d 349 120 [some (.ref t0), some (.int x1), some (.int x2), some (.int x3), some (.int (x4 + 1))] [] (S, I, L, R) := Eq.trans (r_inc (loc' := [some (.ref t0), some (.int x1), some (.int x2), some (.int x3), some (.int (x4 + 1))]) d349_156 kI_1 rfl rfl) (Eq.trans (r_goto d349_159 rfl) (rfl))
theorem b349_162 {t0 : Nat} {x1 x2 x3 x4 : Int32}  : hs_R scr d 349 162 [some (.ref t0), some (.int x1), some (.int x2), some (.int x3), some (.int x4)] [] (S, I, L, R) = hs_R scr d 349 176 [some (.ref t0), some (.int x1), some (.int x2), some (.int x3), some (.int x4)] [] (S, I, L, R) := Eq.trans (r_goto d349_162 rfl) (rfl)
theorem b349_176 {t0 : Nat} {x1 x2 x3 : Int32} {w4 : Option Value}  : hs_R scr d 349 176 [some (.ref t0), some (.int x1), some (.int x2), some (.int x3), w4] [] (S, I, L, R) = some (none, (S, I, L, R)) := r_rv d349_176 rt349
theorem e350 {t0 : Nat} {x1 : Int32} : hs_C scr d 350 [.ref t0, .int x1] h = hs_R scr d 350 0 [some (.ref t0), some (.int x1), none] [] h := by rw [hs_C, mL350]; rfl
theorem b350_0 {t0 : Nat} {x1 : Int32} (o_t0 : ok11 S R t0) : hs_R scr (d + 1) 350 0 [some (.ref t0), some (.int x1), none] [] (S, I, L, R) = (if hs_ib x1 1995 = true then (if (I (t0 + 5) (Int32.toNatClampNeg x1)) = 0 then (if hs_ib (x1 + 1) 1995 = true then ((hs_C scr d 351 [.ref t0, .int (I (t0 + 5) (Int32.toNatClampNeg (x1 + 1)))] (S, I, L, R)).bind fun o => hs_R scr (d + 1) 350 23 [some (.ref t0), some (.int x1), some (.int (I (t0 + 5) (Int32.toNatClampNeg x1)))] (o.1.toList ++ []) o.2) else none) else (if (I (t0 + 5) (Int32.toNatClampNeg x1)) = 4 then hs_R scr (d + 1) 350 34 [some (.ref t0), some (.int x1), some (.int (I (t0 + 5) (Int32.toNatClampNeg x1)))] [] (S, I, L, R) else (if (I (t0 + 5) (Int32.toNatClampNeg x1)) = 5 then hs_R scr (d + 1) 350 34 [some (.ref t0), some (.int x1), some (.int (I (t0 + 5) (Int32.toNatClampNeg x1)))] [] (S, I, L, R) else (if (I (t0 + 5) (Int32.toNatClampNeg x1)) = 6 then ((hs_C scr d 294 [.ref t0] (S, I, L, R)).bind fun o => hs_R scr (d + 1) 350 75 [some (.ref t0), some (.int x1), some (.int (I (t0 + 5) (Int32.toNatClampNeg x1)))] (o.1.toList ++ []) o.2) else (if (I (t0 + 5) (Int32.toNatClampNeg x1)) = 7 then ((hs_C scr d 353 [.ref t0] (S, I, L, R)).bind fun o => hs_R scr (d + 1) 350 86 [some (.ref t0), some (.int x1), some (.int (I (t0 + 5) (Int32.toNatClampNeg x1)))] (o.1.toList ++ []) o.2) else (if (I (t0 + 5) (Int32.toNatClampNeg x1)) = 3 then (if hs_ib (x1 + 1) 1995 = true then (if hs_ib (x1 + 2) 1995 = true then (if hs_ib ((34 : Int32) + (I (t0 + 5) (Int32.toNatClampNeg (x1 + 1)))) 1995 = true then some (some (.int 1), (S, (hs_u I (t0 + 5) (Int32.toNatClampNeg ((34 : Int32) + (I (t0 + 5) (Int32.toNatClampNeg (x1 + 1))))) (I (t0 + 5) (Int32.toNatClampNeg (x1 + 2)))), L, R)) else none) else none) else none) else (if (I (t0 + 5) (Int32.toNatClampNeg x1)) = 1 then hs_R scr (d + 1) 350 105 [some (.ref t0), some (.int x1), some (.int (I (t0 + 5) (Int32.toNatClampNeg x1)))] [.int 1, .int 9, .ref t0] (S, I, L, R) else hs_R scr (d + 1) 350 105 [some (.ref t0), some (.int x1), some (.int (I (t0 + 5) (Int32.toNatClampNeg x1)))] [.int 0, .int 9, .ref t0] (S, I, L, R)))))))) else none) := Eq.trans (r_al_n d350_0 rfl) (Eq.trans (r_getRe d350_1 f350_35 o_t0.2.1 (o_t0.2.2.2.2.2.2.2.2.2.2.1) (Nat.le_trans o_t0.1 (Nat.le_add_right _ _))) (Eq.trans (r_il_n d350_4 rfl) (Eq.trans (r_iald d350_5 (o_t0.2.2.2.2.2.2.2.2.2.2.2.1)) (q_ite (Eq.trans (r_is_n (loc' := [some (.ref t0), some (.int x1), some (.int (I (t0 + 5) (Int32.toNatClampNeg x1)))]) d350_6 rfl) (Eq.trans (r_il_n d350_7 rfl) (Eq.trans (r_zne d350_8 rfl) (q_ite (Eq.trans (r_al_n d350_11 rfl) (Eq.trans (r_al_n d350_12 rfl) (Eq.trans (r_getRe d350_13 f350_35 o_t0.2.1 (o_t0.2.2.2.2.2.2.2.2.2.2.1) (Nat.le_trans o_t0.1 (Nat.le_add_right _ _))) (Eq.trans (r_il_n d350_16 rfl) (Eq.trans (r_ic d350_17 kI_1) (Eq.trans (r_iadd d350_18) (Eq.trans (r_iald d350_19 (o_t0.2.2.2.2.2.2.2.2.2.2.2.1)) (q_ite (r_cvE (as := [.int (I (t0 + 5) (Int32.toNatClampNeg (x1 + 1)))]) (r := []) d350_20 c350_482 ow351 o_t0.2.1 np351.symm rfl (hs_fitE mL351 (Nat.le_of_ble_eq_true rfl))) rfl)))))))) (Eq.trans (r_il_n d350_24 rfl) (Eq.trans (r_ic d350_25 kI_4) (Eq.trans (r_ceq d350_26 rfl) (q_ite (rfl) (Eq.trans (r_il_n d350_29 rfl) (Eq.trans (r_ic d350_30 kI_5) (Eq.trans (r_cne d350_31 rfl) (q_ite (rfl) (Eq.trans (r_il_n d350_65 rfl) (Eq.trans (r_bp d350_66 kB_6) (Eq.trans (r_cne d350_68 rfl) (q_ite (Eq.trans (r_al_n d350_71 rfl) (r_cvE (as := []) (r := []) d350_72 c350_378 ow294 o_t0.2.1 np294.symm rfl (hs_fitE mL294 (Nat.le_of_ble_eq_true rfl)))) (Eq.trans (r_il_n d350_76 rfl) (Eq.trans (r_bp d350_77 kB_7) (Eq.trans (r_cne d350_79 rfl) (q_ite (Eq.trans (r_al_n d350_82 rfl) (r_cvE (as := []) (r := []) d350_83 c350_489 ow353 o_t0.2.1 np353.symm rfl (hs_fitE mL353 (Nat.le_of_ble_eq_true rfl)))) (Eq.trans (r_il_n d350_87 rfl) (Eq.trans (r_ic d350_88 kI_3) (Eq.trans (r_ceq d350_89 rfl) (q_ite (Eq.trans (r_al_n d350_109 rfl) (Eq.trans (r_getRe d350_110 f350_35 o_t0.2.1 (o_t0.2.2.2.2.2.2.2.2.2.2.1) (Nat.le_trans o_t0.1 (Nat.le_add_right _ _))) (Eq.trans (r_bp d350_113 kB_34) (Eq.trans (r_al_n d350_115 rfl) (Eq.trans (r_getRe d350_116 f350_35 o_t0.2.1 (o_t0.2.2.2.2.2.2.2.2.2.2.1) (Nat.le_trans o_t0.1 (Nat.le_add_right _ _))) (Eq.trans (r_il_n d350_119 rfl) (Eq.trans (r_ic d350_120 kI_1) (Eq.trans (r_iadd d350_121) (Eq.trans (r_iald d350_122 (o_t0.2.2.2.2.2.2.2.2.2.2.2.1)) (q_ite (Eq.trans (r_iadd d350_123) (Eq.trans (r_al_n d350_124 rfl) (Eq.trans (r_getRe d350_125 f350_35 o_t0.2.1 (o_t0.2.2.2.2.2.2.2.2.2.2.1) (Nat.le_trans o_t0.1 (Nat.le_add_right _ _))) (Eq.trans (r_il_n d350_128 rfl) (Eq.trans (r_ic d350_129 kI_2) (Eq.trans (r_iadd d350_130) (Eq.trans (r_iald d350_131 (o_t0.2.2.2.2.2.2.2.2.2.2.2.1)) (q_ite (Eq.trans (r_iast d350_132 (o_t0.2.2.2.2.2.2.2.2.2.2.2.1)) (q_ite (Eq.trans (r_ic d350_133 kI_1) ((r_rz d350_134 rt350).trans (if_pos (Or.inr rfl)))) rfl)) rfl)))))))) rfl)))))))))) (Eq.trans (r_al_n d350_92 rfl) (Eq.trans (r_bp d350_93 kB_9) (Eq.trans (r_il_n d350_95 rfl) (Eq.trans (r_ic d350_96 kI_1) (Eq.trans (r_cne d350_97 rfl) (q_ite (Eq.trans (r_ic d350_100 kI_1) (Eq.trans (r_goto d350_101 rfl) (rfl))) (Eq.trans (r_ic d350_104 kI_0) (rfl)))))))))))))))))))))))))))))))) rfl))))
theorem b350_23 {t0 : Nat} {x1 x2 s0 : Int32}  : hs_R scr d 350 23 [some (.ref t0), some (.int x1), some (.int x2)] [.int s0] (S, I, L, R) = (if s0 = 0 ∨ s0 = 1 then some (some (.int s0), (S, I, L, R)) else none) := r_rz d350_23 rt350
theorem b350_34 {t0 : Nat} {x1 x2 : Int32} (o_t0 : ok11 S R t0) : hs_R scr d 350 34 [some (.ref t0), some (.int x1), some (.int x2)] [] (S, I, L, R) = (if hs_ib (x1 + 1) 1995 = true then (if hs_ib (x1 + 2) 1995 = true then (if x2 = 5 then hs_R scr d 350 61 [some (.ref t0), some (.int x1), some (.int x2)] [.int 1, .int (I (t0 + 5) (Int32.toNatClampNeg (x1 + 2))), .int (I (t0 + 5) (Int32.toNatClampNeg (x1 + 1))), .ref t0] (S, I, L, R) else hs_R scr d 350 61 [some (.ref t0), some (.int x1), some (.int x2)] [.int 0, .int (I (t0 + 5) (Int32.toNatClampNeg (x1 + 2))), .int (I (t0 + 5) (Int32.toNatClampNeg (x1 + 1))), .ref t0] (S, I, L, R)) else none) else none) := Eq.trans (r_al_n d350_34 rfl) (Eq.trans (r_al_n d350_35 rfl) (Eq.trans (r_getRe d350_36 f350_35 o_t0.2.1 (o_t0.2.2.2.2.2.2.2.2.2.2.1) (Nat.le_trans o_t0.1 (Nat.le_add_right _ _))) (Eq.trans (r_il_n d350_39 rfl) (Eq.trans (r_ic d350_40 kI_1) (Eq.trans (r_iadd d350_41) (Eq.trans (r_iald d350_42 (o_t0.2.2.2.2.2.2.2.2.2.2.2.1)) (q_ite (Eq.trans (r_al_n d350_43 rfl) (Eq.trans (r_getRe d350_44 f350_35 o_t0.2.1 (o_t0.2.2.2.2.2.2.2.2.2.2.1) (Nat.le_trans o_t0.1 (Nat.le_add_right _ _))) (Eq.trans (r_il_n d350_47 rfl) (Eq.trans (r_ic d350_48 kI_2) (Eq.trans (r_iadd d350_49) (Eq.trans (r_iald d350_50 (o_t0.2.2.2.2.2.2.2.2.2.2.2.1)) (q_ite (Eq.trans (r_il_n d350_51 rfl) (Eq.trans (r_ic d350_52 kI_5) (Eq.trans (r_cne d350_53 rfl) (q_ite (Eq.trans (r_ic d350_56 kI_1) (Eq.trans (r_goto d350_57 rfl) (rfl))) (Eq.trans (r_ic d350_60 kI_0) (rfl)))))) rfl))))))) rfl)))))))
theorem b350_61 {t0 u0 : Nat} {x1 x2 s1 s2 s3 : Int32} (o_u0 : ok11 S R u0) : hs_R scr (d + 1) 350 61 [some (.ref t0), some (.int x1), some (.int x2)] [.int s3, .int s2, .int s1, .ref u0] (S, I, L, R) = ((hs_C scr d 352 [.ref u0, .int s1, .int s2, .int s3] (S, I, L, R)).bind fun o => hs_R scr (d + 1) 350 64 [some (.ref t0), some (.int x1), some (.int x2)] (o.1.toList ++ []) o.2) := r_cvE (as := [.int s1, .int s2, .int s3]) (r := []) d350_61 c350_485 ow352 o_u0.2.1 np352.symm rfl (hs_fitE mL352 (Nat.le_of_ble_eq_true rfl))
theorem b350_64 {t0 : Nat} {x1 x2 s0 : Int32}  : hs_R scr d 350 64 [some (.ref t0), some (.int x1), some (.int x2)] [.int s0] (S, I, L, R) = (if s0 = 0 ∨ s0 = 1 then some (some (.int s0), (S, I, L, R)) else none) := r_rz d350_64 rt350
theorem b350_75 {t0 : Nat} {x1 x2 s0 : Int32}  : hs_R scr d 350 75 [some (.ref t0), some (.int x1), some (.int x2)] [.int s0] (S, I, L, R) = (if s0 = 0 ∨ s0 = 1 then some (some (.int s0), (S, I, L, R)) else none) := r_rz d350_75 rt350
theorem b350_86 {t0 : Nat} {x1 x2 s0 : Int32}  : hs_R scr d 350 86 [some (.ref t0), some (.int x1), some (.int x2)] [.int s0] (S, I, L, R) = (if s0 = 0 ∨ s0 = 1 then some (some (.int s0), (S, I, L, R)) else none) := r_rz d350_86 rt350
theorem b350_105 {t0 u0 : Nat} {x1 x2 s1 s2 : Int32} (o_u0 : ok11 S R u0) : hs_R scr (d + 1) 350 105 [some (.ref t0), some (.int x1), some (.int x2)] [.int s2, .int s1, .ref u0] (S, I, L, R) = ((hs_C scr d 286 [.ref u0, .int s1, .int s2] (S, I, L, R)).bind fun o => hs_R scr (d + 1) 350 108 [some (.ref t0), some (.int x1), some (.int x2)] (o.1.toList ++ []) o.2) := r_cvE (as := [.int s1, .int s2]) (r := []) d350_105 c350_364 ow286 o_u0.2.1 np286.symm rfl (hs_fitE mL286 (Nat.le_of_ble_eq_true rfl))
theorem b350_108 {t0 : Nat} {x1 x2 s0 : Int32}  : hs_R scr d 350 108 [some (.ref t0), some (.int x1), some (.int x2)] [.int s0] (S, I, L, R) = (if s0 = 0 ∨ s0 = 1 then some (some (.int s0), (S, I, L, R)) else none) := r_rz d350_108 rt350
theorem e351 {t0 : Nat} {x1 : Int32} : hs_C scr d 351 [.ref t0, .int x1] h = hs_R scr d 351 0 [some (.ref t0), some (.int x1), none] [] h := by rw [hs_C, mL351]; rfl
theorem b351_0 {t0 : Nat} {x1 : Int32} (o_t0 : ok11 S R t0) : hs_R scr d 351 0 [some (.ref t0), some (.int x1), none] [] (S, I, L, R) = (if ((I (t0 + 5) 8) + x1) ≤ 9999 then hs_R scr d 351 19 [some (.ref t0), some (.int x1), some (.int 0)] [] (S, I, L, R) else some (some (.int 0), (S, I, L, R))) := Eq.trans (r_al_n d351_0 rfl) (Eq.trans (r_getRe d351_1 f351_35 o_t0.2.1 (o_t0.2.2.2.2.2.2.2.2.2.2.1) (Nat.le_trans o_t0.1 (Nat.le_add_right _ _))) (Eq.trans (r_bp d351_4 kB_8) (Eq.trans ((r_ialdC d351_6 (o_t0.2.2.2.2.2.2.2.2.2.2.2.1) ib_8_1995 tn_8)) (Eq.trans (r_il_n d351_7 rfl) (Eq.trans (r_iadd d351_8) (Eq.trans (r_sp d351_9 kS_9999) (Eq.trans (r_cle d351_12 rfl) (q_ite (Eq.trans (r_ic d351_17 kI_0) (Eq.trans (r_is_n (loc' := [some (.ref t0), some (.int x1), some (.int 0)]) d351_18 rfl) (rfl))) (Eq.trans (r_ic d351_15 kI_0) ((r_rz d351_16 rt351).trans (if_pos (Or.inl rfl))))))))))))
theorem b351_19 {t0 : Nat} {x1 x2 : Int32} (o_t0 : ok11 S R t0) : hs_R scr (d + 1) 351 19 [some (.ref t0), some (.int x1), some (.int x2)] [] (S, I, L, R) = (if x1 ≤ x2 then some (some (.int 1), (S, (hs_u I t0 36 ((I t0 36) + x1)), L, R)) else ((hs_C scr d 284 [.ref t0] (S, I, L, R)).bind fun o => hs_R scr (d + 1) 351 28 [some (.ref t0), some (.int x1), some (.int x2)] (o.1.toList ++ []) o.2)) := Eq.trans (r_il_n d351_19 rfl) (Eq.trans (r_il_n d351_20 rfl) (Eq.trans (r_cge d351_21 rfl) (q_ite (Eq.trans (r_al_n d351_34 rfl) (Eq.trans (r_dup d351_35 rfl) (Eq.trans (r_getI d351_36 f351_470 o_t0.2.1) (Eq.trans (r_il_n d351_39 rfl) (Eq.trans (r_iadd d351_40) (Eq.trans (r_putI d351_41 f351_470 o_t0.2.1) (Eq.trans (r_ic d351_44 kI_1) ((r_rz d351_45 rt351).trans (if_pos (Or.inr rfl)))))))))) (Eq.trans (r_al_n d351_24 rfl) (r_cvE (as := []) (r := []) d351_25 c351_361 ow284 o_t0.2.1 np284.symm rfl (hs_fitE mL284 (Nat.le_of_ble_eq_true rfl)))))))
theorem b351_28 {t0 : Nat} {x1 x2 : Int32}  : hs_R scr d 351 28 [some (.ref t0), some (.int x1), some (.int x2)] [] (S, I, L, R) = hs_R scr d 351 19 [some (.ref t0), some (.int x1), some (.int (x2 + 1))] [] (S, I, L, R) := Eq.trans (r_inc (loc' := [some (.ref t0), some (.int x1), some (.int (x2 + 1))]) d351_28 kI_1 rfl rfl) (Eq.trans (r_goto d351_31 rfl) (rfl))
theorem e352 {t0 : Nat} {x1 : Int32} {x2 : Int32} {x3 : Int32} : hs_C scr d 352 [.ref t0, .int x1, .int x2, .int x3] h = hs_R scr d 352 0 [some (.ref t0), some (.int x1), some (.int x2), some (.int x3)] [] h := by rw [hs_C, mL352]; rfl
theorem b352_0 {t0 : Nat} {x1 x2 x3 : Int32} (o_t0 : ok11 S R t0) : hs_R scr (d + 1) 352 0 [some (.ref t0), some (.int x1), some (.int x2), some (.int x3)] [] (S, I, L, R) = (if hs_ib ((10 : Int32) + x1) 1995 = true then (if (I (t0 + 5) (Int32.toNatClampNeg ((10 : Int32) + x1))) ≤ x2 then hs_R scr (d + 1) 352 26 [some (.ref t0), some (.int x1), some (.int x2), some (.int x3)] [] (S, I, L, R) else (if x3 = 0 then hs_R scr (d + 1) 352 28 [some (.ref t0), some (.int x1), some (.int x2), some (.int x3)] [] (S, I, L, R) else ((hs_C scr d 292 [.ref t0, .int x1, .int x2] (S, I, L, R)).bind fun o => hs_R scr (d + 1) 352 23 [some (.ref t0), some (.int x1), some (.int x2), some (.int x3)] (o.1.toList ++ []) o.2))) else none) := Eq.trans (r_il_n d352_0 rfl) (Eq.trans (r_al_n d352_1 rfl) (Eq.trans (r_getRe d352_2 f352_35 o_t0.2.1 (o_t0.2.2.2.2.2.2.2.2.2.2.1) (Nat.le_trans o_t0.1 (Nat.le_add_right _ _))) (Eq.trans (r_bp d352_5 kB_10) (Eq.trans (r_il_n d352_7 rfl) (Eq.trans (r_iadd d352_8) (Eq.trans (r_iald d352_9 (o_t0.2.2.2.2.2.2.2.2.2.2.2.1)) (q_ite (Eq.trans (r_cge d352_10 rfl) (q_ite (rfl) (Eq.trans (r_il_n d352_13 rfl) (Eq.trans (r_zeq d352_14 rfl) (q_ite (rfl) (Eq.trans (r_al_n d352_17 rfl) (Eq.trans (r_il_n d352_18 rfl) (Eq.trans (r_il_n d352_19 rfl) (r_cvE (as := [.int x1, .int x2]) (r := []) d352_20 c352_375 ow292 o_t0.2.1 np292.symm rfl (hs_fitE mL292 (Nat.le_of_ble_eq_true rfl))))))))))) rfl)))))))
theorem b352_23 {t0 : Nat} {x1 x2 x3 s0 : Int32}  : hs_R scr d 352 23 [some (.ref t0), some (.int x1), some (.int x2), some (.int x3)] [.int s0] (S, I, L, R) = (if (0 : Int32) < s0 then hs_R scr d 352 28 [some (.ref t0), some (.int x1), some (.int x2), some (.int x3)] [] (S, I, L, R) else hs_R scr d 352 26 [some (.ref t0), some (.int x1), some (.int x2), some (.int x3)] [] (S, I, L, R)) := Eq.trans (r_zgt d352_23 rfl) (q_ite (rfl) (rfl))
theorem b352_26 {t0 : Nat} {x1 x2 x3 : Int32}  : hs_R scr d 352 26 [some (.ref t0), some (.int x1), some (.int x2), some (.int x3)] [] (S, I, L, R) = some (some (.int 0), (S, I, L, R)) := Eq.trans (r_ic d352_26 kI_0) ((r_rz d352_27 rt352).trans (if_pos (Or.inl rfl)))
theorem b352_28 {t0 : Nat} {x1 x2 x3 : Int32} (o_t0 : ok11 S R t0) : hs_R scr (d + 1) 352 28 [some (.ref t0), some (.int x1), some (.int x2), some (.int x3)] [] (S, I, L, R) = ((hs_C scr d 290 [.ref t0, .int x1, .int x2] (S, I, L, R)).bind fun o => hs_R scr (d + 1) 352 39 [some (.ref t0), some (.int x1), some (.int x2), some (.int x3)] (o.1.toList ++ [.int (I t0 37), .ref t0]) o.2) := Eq.trans (r_al_n d352_28 rfl) (Eq.trans (r_dup d352_29 rfl) (Eq.trans (r_getI d352_30 f352_473 o_t0.2.1) (Eq.trans (r_al_n d352_33 rfl) (Eq.trans (r_il_n d352_34 rfl) (Eq.trans (r_il_n d352_35 rfl) (r_cvE (as := [.int x1, .int x2]) (r := [.int (I t0 37), .ref t0]) d352_36 c352_370 ow290 o_t0.2.1 np290.symm rfl (hs_fitE mL290 (Nat.le_of_ble_eq_true rfl))))))))
theorem b352_39 {t0 u0 : Nat} {x1 x2 x3 s1 s2 : Int32} (o_u0 : ok11 S R u0) (o_t0 : ok11 S R t0) : hs_R scr d 352 39 [some (.ref t0), some (.int x1), some (.int x2), some (.int x3)] [.int s2, .int s1, .ref u0] (S, I, L, R) = (if x3 = 0 then hs_R scr d 352 57 [some (.ref t0), some (.int x1), some (.int x2), some (.int x3)] [.int 0, .int ((hs_u I u0 37 (s1 + s2)) t0 38), .ref t0] (S, (hs_u I u0 37 (s1 + s2)), L, R) else hs_R scr d 352 57 [some (.ref t0), some (.int x1), some (.int x2), some (.int x3)] [.int 1, .int ((hs_u I u0 37 (s1 + s2)) t0 38), .ref t0] (S, (hs_u I u0 37 (s1 + s2)), L, R)) := Eq.trans (r_iadd d352_39) (Eq.trans (r_putI d352_40 f352_473 o_u0.2.1) (Eq.trans (r_al_n d352_43 rfl) (Eq.trans (r_dup d352_44 rfl) (Eq.trans (r_getI d352_45 f352_476 o_t0.2.1) (Eq.trans (r_il_n d352_48 rfl) (Eq.trans (r_zeq d352_49 rfl) (q_ite (Eq.trans (r_ic d352_56 kI_0) (rfl)) (Eq.trans (r_ic d352_52 kI_1) (Eq.trans (r_goto d352_53 rfl) (rfl))))))))))
theorem b352_57 {t0 u0 : Nat} {x1 x2 x3 s1 s2 : Int32} (o_u0 : ok11 S R u0) : hs_R scr d 352 57 [some (.ref t0), some (.int x1), some (.int x2), some (.int x3)] [.int s2, .int s1, .ref u0] (S, I, L, R) = some (some (.int 1), (S, (hs_u I u0 38 (s1 + s2)), L, R)) := Eq.trans (r_iadd d352_57) (Eq.trans (r_putI d352_58 f352_476 o_u0.2.1) (Eq.trans (r_ic d352_61 kI_1) ((r_rz d352_62 rt352).trans (if_pos (Or.inr rfl)))))
theorem e353 {t0 : Nat} : hs_C scr d 353 [.ref t0] h = hs_R scr d 353 0 [some (.ref t0), none] [] h := by rw [hs_C, mL353]; rfl
theorem b353_0 {t0 : Nat} (o_t0 : ok11 S R t0) : hs_R scr (d + 1) 353 0 [some (.ref t0), none] [] (S, I, L, R) = (if (I (t0 + 5) 0) = 0 then some (some (.int 0), (S, I, L, R)) else ((hs_C scr d 354 [.ref t0, .int (I (t0 + 5) 0)] (S, I, L, R)).bind fun o => hs_R scr (d + 1) 353 21 [some (.ref t0), none] (o.1.toList ++ []) o.2)) := Eq.trans (r_al_n d353_0 rfl) (Eq.trans (r_getRe d353_1 f353_35 o_t0.2.1 (o_t0.2.2.2.2.2.2.2.2.2.2.1) (Nat.le_trans o_t0.1 (Nat.le_add_right _ _))) (Eq.trans (r_ic d353_4 kI_0) (Eq.trans ((r_ialdC d353_5 (o_t0.2.2.2.2.2.2.2.2.2.2.2.1) ib_0_1995 tn_0)) (Eq.trans (r_zne d353_6 rfl) (q_ite (Eq.trans (r_ic d353_9 kI_0) ((r_rz d353_10 rt353).trans (if_pos (Or.inl rfl)))) (Eq.trans (r_al_n d353_11 rfl) (Eq.trans (r_al_n d353_12 rfl) (Eq.trans (r_getRe d353_13 f353_35 o_t0.2.1 (o_t0.2.2.2.2.2.2.2.2.2.2.1) (Nat.le_trans o_t0.1 (Nat.le_add_right _ _))) (Eq.trans (r_ic d353_16 kI_0) (Eq.trans ((r_ialdC d353_17 (o_t0.2.2.2.2.2.2.2.2.2.2.2.1) ib_0_1995 tn_0)) (r_cvE (as := [.int (I (t0 + 5) 0)]) (r := []) d353_18 c353_479 ow354 o_t0.2.1 np354.symm rfl (hs_fitE mL354 (Nat.le_of_ble_eq_true rfl)))))))))))))
theorem b353_21 {t0 : Nat} {s0 : Int32} (o_t0 : ok11 S R t0) : hs_R scr (d + 1) 353 21 [some (.ref t0), none] [.int s0] (S, I, L, R) = ((hs_C scr d 354 [.ref t0, .int 3] (S, I, L, R)).bind fun o => hs_R scr (d + 1) 353 35 [some (.ref t0), some (.int s0)] (o.1.toList ++ [.int ((26 : Int32) + s0), .ref (t0 + 5)]) o.2) := Eq.trans (r_is_n (loc' := [some (.ref t0), some (.int s0)]) d353_21 rfl) (Eq.trans (r_al_n d353_22 rfl) (Eq.trans (r_getRe d353_23 f353_35 o_t0.2.1 (o_t0.2.2.2.2.2.2.2.2.2.2.1) (Nat.le_trans o_t0.1 (Nat.le_add_right _ _))) (Eq.trans (r_bp d353_26 kB_26) (Eq.trans (r_il_n d353_28 rfl) (Eq.trans (r_iadd d353_29) (Eq.trans (r_al_n d353_30 rfl) (Eq.trans (r_ic d353_31 kI_3) (r_cvE (as := [.int 3]) (r := [.int ((26 : Int32) + s0), .ref (t0 + 5)]) d353_32 c353_479 ow354 o_t0.2.1 np354.symm rfl (hs_fitE mL354 (Nat.le_of_ble_eq_true rfl))))))))))
theorem b353_35 {t0 u0 n_u0 : Nat} {x1 s1 s2 : Int32} (a_u0 : S[u0]? = some (.inr (.int, n_u0))) : hs_R scr d 353 35 [some (.ref t0), some (.int x1)] [.int s2, .int s1, .ref u0] (S, I, L, R) = (if hs_ib s1 n_u0 = true then some (some (.int 1), (S, (hs_u I u0 (Int32.toNatClampNeg s1) s2), L, R)) else none) := Eq.trans (r_iast d353_35 a_u0) (q_ite (Eq.trans (r_ic d353_36 kI_1) ((r_rz d353_37 rt353).trans (if_pos (Or.inr rfl)))) rfl)
theorem e354 {t0 : Nat} {x1 : Int32} : hs_C scr d 354 [.ref t0, .int x1] h = hs_R scr d 354 0 [some (.ref t0), some (.int x1)] [] h := by rw [hs_C, mL354]; rfl
theorem b354_0 {t0 : Nat} {x1 : Int32} (o_t0 : ok11 S R t0) : hs_R scr d 354 0 [some (.ref t0), some (.int x1)] [] (S, I, L, R) = (if x1 = 0 then none else some (some (.int ((((hs_u I t0 33 ((((I t0 33) * 2971) + 10837) - (((I t0 33) * 2971) + 10837) / 65536 * 65536)) t0 33) / 8) - (((hs_u I t0 33 ((((I t0 33) * 2971) + 10837) - (((I t0 33) * 2971) + 10837) / 65536 * 65536)) t0 33) / 8) / x1 * x1)), (S, (hs_u I t0 33 ((((I t0 33) * 2971) + 10837) - (((I t0 33) * 2971) + 10837) / 65536 * 65536)), L, R))) := Eq.trans (r_al_n d354_0 rfl) (Eq.trans (r_al_n d354_1 rfl) (Eq.trans (r_getI d354_2 f354_466 o_t0.2.1) (Eq.trans (r_sp d354_5 kS_2971) (Eq.trans (r_imul d354_8) (Eq.trans (r_sp d354_9 kS_10837) (Eq.trans (r_iadd d354_12) (Eq.trans (r_ldcw d354_13 ci354_469) (Eq.trans ((r_irem d354_16).trans (if_neg nzI_65536)) (Eq.trans (r_putI d354_17 f354_466 o_t0.2.1) (Eq.trans (r_al_n d354_20 rfl) (Eq.trans (r_getI d354_21 f354_466 o_t0.2.1) (Eq.trans (r_bp d354_24 kB_8) (Eq.trans ((r_idiv d354_26).trans (if_neg nzI_8)) (Eq.trans (r_il_n d354_27 rfl) (Eq.trans (r_irem d354_28) (q_ite rfl (r_ri d354_29 rt354)))))))))))))))))
theorem e355 {t0 : Nat} {x1 : Int32} : hs_C scr d 355 [.ref t0, .int x1] h = hs_R scr d 355 0 [some (.ref t0), some (.int x1), none, none] [] h := by rw [hs_C, mL355]; rfl
theorem b355_0 {t0 : Nat} {x1 : Int32} (o_t0 : ok11 S R t0) : hs_R scr (d + 1) 355 0 [some (.ref t0), some (.int x1), none, none] [] (S, I, L, R) = (if hs_ib (x1 + 6) 1995 = true then (if (I (t0 + 5) (Int32.toNatClampNeg (x1 + 6))) = 2 then (if (I (t0 + 5) 9) = 1 then hs_R scr (d + 1) 355 31 [some (.ref t0), some (.int x1), some (.int (I (t0 + 5) (Int32.toNatClampNeg (x1 + 6)))), none] [.int 1] (S, I, L, R) else hs_R scr (d + 1) 355 31 [some (.ref t0), some (.int x1), some (.int (I (t0 + 5) (Int32.toNatClampNeg (x1 + 6)))), none] [.int 0] (S, I, L, R)) else (if (I (t0 + 5) (Int32.toNatClampNeg (x1 + 6))) = 0 then (if hs_ib (x1 + 1) 1995 = true then ((hs_C scr d 301 [.ref t0, .int (I (t0 + 5) (Int32.toNatClampNeg (x1 + 1)))] (S, I, L, R)).bind fun o => hs_R scr (d + 1) 355 48 [some (.ref t0), some (.int x1), some (.int (I (t0 + 5) (Int32.toNatClampNeg (x1 + 6)))), none] (o.1.toList ++ []) o.2) else none) else (if hs_ib (x1 + 1) 1995 = true then (if hs_ib ((10 : Int32) + (I (t0 + 5) (Int32.toNatClampNeg (x1 + 1)))) 1995 = true then (if hs_ib (x1 + 7) 1995 = true then (if (I (t0 + 5) (Int32.toNatClampNeg (x1 + 7))) = 60 then (if hs_ib (x1 + 2) 1995 = true then (if (I (t0 + 5) (Int32.toNatClampNeg (x1 + 2))) ≤ (I (t0 + 5) (Int32.toNatClampNeg ((10 : Int32) + (I (t0 + 5) (Int32.toNatClampNeg (x1 + 1)))))) then hs_R scr (d + 1) 355 159 [some (.ref t0), some (.int x1), some (.int (I (t0 + 5) (Int32.toNatClampNeg (x1 + 6)))), some (.int (I (t0 + 5) (Int32.toNatClampNeg ((10 : Int32) + (I (t0 + 5) (Int32.toNatClampNeg (x1 + 1)))))))] [.int 0] (S, I, L, R) else hs_R scr (d + 1) 355 159 [some (.ref t0), some (.int x1), some (.int (I (t0 + 5) (Int32.toNatClampNeg (x1 + 6)))), some (.int (I (t0 + 5) (Int32.toNatClampNeg ((10 : Int32) + (I (t0 + 5) (Int32.toNatClampNeg (x1 + 1)))))))] [.int 1] (S, I, L, R)) else none) else (if hs_ib (x1 + 7) 1995 = true then (if (I (t0 + 5) (Int32.toNatClampNeg (x1 + 7))) = 62 then (if hs_ib (x1 + 2) 1995 = true then (if (I (t0 + 5) (Int32.toNatClampNeg ((10 : Int32) + (I (t0 + 5) (Int32.toNatClampNeg (x1 + 1)))))) ≤ (I (t0 + 5) (Int32.toNatClampNeg (x1 + 2))) then hs_R scr (d + 1) 355 159 [some (.ref t0), some (.int x1), some (.int (I (t0 + 5) (Int32.toNatClampNeg (x1 + 6)))), some (.int (I (t0 + 5) (Int32.toNatClampNeg ((10 : Int32) + (I (t0 + 5) (Int32.toNatClampNeg (x1 + 1)))))))] [.int 0] (S, I, L, R) else hs_R scr (d + 1) 355 159 [some (.ref t0), some (.int x1), some (.int (I (t0 + 5) (Int32.toNatClampNeg (x1 + 6)))), some (.int (I (t0 + 5) (Int32.toNatClampNeg ((10 : Int32) + (I (t0 + 5) (Int32.toNatClampNeg (x1 + 1)))))))] [.int 1] (S, I, L, R)) else none) else (if hs_ib (x1 + 2) 1995 = true then (if (I (t0 + 5) (Int32.toNatClampNeg ((10 : Int32) + (I (t0 + 5) (Int32.toNatClampNeg (x1 + 1)))))) = (I (t0 + 5) (Int32.toNatClampNeg (x1 + 2))) then hs_R scr (d + 1) 355 159 [some (.ref t0), some (.int x1), some (.int (I (t0 + 5) (Int32.toNatClampNeg (x1 + 6)))), some (.int (I (t0 + 5) (Int32.toNatClampNeg ((10 : Int32) + (I (t0 + 5) (Int32.toNatClampNeg (x1 + 1)))))))] [.int 1] (S, I, L, R) else hs_R scr (d + 1) 355 159 [some (.ref t0), some (.int x1), some (.int (I (t0 + 5) (Int32.toNatClampNeg (x1 + 6)))), some (.int (I (t0 + 5) (Int32.toNatClampNeg ((10 : Int32) + (I (t0 + 5) (Int32.toNatClampNeg (x1 + 1)))))))] [.int 0] (S, I, L, R)) else none)) else none)) else none) else none) else none))) else none) := Eq.trans (r_al_n d355_0 rfl) (Eq.trans (r_getRe d355_1 f355_35 o_t0.2.1 (o_t0.2.2.2.2.2.2.2.2.2.2.1) (Nat.le_trans o_t0.1 (Nat.le_add_right _ _))) (Eq.trans (r_il_n d355_4 rfl) (Eq.trans (r_bp d355_5 kB_6) (Eq.trans (r_iadd d355_7) (Eq.trans (r_iald d355_8 (o_t0.2.2.2.2.2.2.2.2.2.2.2.1)) (q_ite (Eq.trans (r_is_n (loc' := [some (.ref t0), some (.int x1), some (.int (I (t0 + 5) (Int32.toNatClampNeg (x1 + 6)))), none]) d355_9 rfl) (Eq.trans (r_il_n d355_10 rfl) (Eq.trans (r_ic d355_11 kI_2) (Eq.trans (r_cne d355_12 rfl) (q_ite (Eq.trans (r_al_n d355_15 rfl) (Eq.trans (r_getRe d355_16 f355_35 o_t0.2.1 (o_t0.2.2.2.2.2.2.2.2.2.2.1) (Nat.le_trans o_t0.1 (Nat.le_add_right _ _))) (Eq.trans (r_bp d355_19 kB_9) (Eq.trans ((r_ialdC d355_21 (o_t0.2.2.2.2.2.2.2.2.2.2.2.1) ib_9_1995 tn_9)) (Eq.trans (r_ic d355_22 kI_1) (Eq.trans (r_cne d355_23 rfl) (q_ite (Eq.trans (r_ic d355_26 kI_1) (Eq.trans (r_goto d355_27 rfl) (rfl))) (Eq.trans (r_ic d355_30 kI_0) (rfl))))))))) (Eq.trans (r_il_n d355_32 rfl) (Eq.trans (r_zne d355_33 rfl) (q_ite (Eq.trans (r_al_n d355_36 rfl) (Eq.trans (r_al_n d355_37 rfl) (Eq.trans (r_getRe d355_38 f355_35 o_t0.2.1 (o_t0.2.2.2.2.2.2.2.2.2.2.1) (Nat.le_trans o_t0.1 (Nat.le_add_right _ _))) (Eq.trans (r_il_n d355_41 rfl) (Eq.trans (r_ic d355_42 kI_1) (Eq.trans (r_iadd d355_43) (Eq.trans (r_iald d355_44 (o_t0.2.2.2.2.2.2.2.2.2.2.2.1)) (q_ite (r_cvE (as := [.int (I (t0 + 5) (Int32.toNatClampNeg (x1 + 1)))]) (r := []) d355_45 c355_394 ow301 o_t0.2.1 np301.symm rfl (hs_fitE mL301 (Nat.le_of_ble_eq_true rfl))) rfl)))))))) (Eq.trans (r_al_n d355_57 rfl) (Eq.trans (r_getRe d355_58 f355_35 o_t0.2.1 (o_t0.2.2.2.2.2.2.2.2.2.2.1) (Nat.le_trans o_t0.1 (Nat.le_add_right _ _))) (Eq.trans (r_bp d355_61 kB_10) (Eq.trans (r_al_n d355_63 rfl) (Eq.trans (r_getRe d355_64 f355_35 o_t0.2.1 (o_t0.2.2.2.2.2.2.2.2.2.2.1) (Nat.le_trans o_t0.1 (Nat.le_add_right _ _))) (Eq.trans (r_il_n d355_67 rfl) (Eq.trans (r_ic d355_68 kI_1) (Eq.trans (r_iadd d355_69) (Eq.trans (r_iald d355_70 (o_t0.2.2.2.2.2.2.2.2.2.2.2.1)) (q_ite (Eq.trans (r_iadd d355_71) (Eq.trans (r_iald d355_72 (o_t0.2.2.2.2.2.2.2.2.2.2.2.1)) (q_ite (Eq.trans (r_is_n (loc' := [some (.ref t0), some (.int x1), some (.int (I (t0 + 5) (Int32.toNatClampNeg (x1 + 6)))), some (.int (I (t0 + 5) (Int32.toNatClampNeg ((10 : Int32) + (I (t0 + 5) (Int32.toNatClampNeg (x1 + 1)))))))]) d355_73 rfl) (Eq.trans (r_al_n d355_74 rfl) (Eq.trans (r_getRe d355_75 f355_35 o_t0.2.1 (o_t0.2.2.2.2.2.2.2.2.2.2.1) (Nat.le_trans o_t0.1 (Nat.le_add_right _ _))) (Eq.trans (r_il_n d355_78 rfl) (Eq.trans (r_bp d355_79 kB_7) (Eq.trans (r_iadd d355_81) (Eq.trans (r_iald d355_82 (o_t0.2.2.2.2.2.2.2.2.2.2.2.1)) (q_ite (Eq.trans (r_bp d355_83 kB_60) (Eq.trans (r_cne d355_85 rfl) (q_ite (Eq.trans (r_il_n d355_88 rfl) (Eq.trans (r_al_n d355_89 rfl) (Eq.trans (r_getRe d355_90 f355_35 o_t0.2.1 (o_t0.2.2.2.2.2.2.2.2.2.2.1) (Nat.le_trans o_t0.1 (Nat.le_add_right _ _))) (Eq.trans (r_il_n d355_93 rfl) (Eq.trans (r_ic d355_94 kI_2) (Eq.trans (r_iadd d355_95) (Eq.trans (r_iald d355_96 (o_t0.2.2.2.2.2.2.2.2.2.2.2.1)) (q_ite (Eq.trans (r_cge d355_97 rfl) (q_ite (Eq.trans (r_ic d355_104 kI_0) (Eq.trans (r_goto d355_105 rfl) (rfl))) (Eq.trans (r_ic d355_100 kI_1) (Eq.trans (r_goto d355_101 rfl) (rfl))))) rfl)))))))) (Eq.trans (r_al_n d355_108 rfl) (Eq.trans (r_getRe d355_109 f355_35 o_t0.2.1 (o_t0.2.2.2.2.2.2.2.2.2.2.1) (Nat.le_trans o_t0.1 (Nat.le_add_right _ _))) (Eq.trans (r_il_n d355_112 rfl) (Eq.trans (r_bp d355_113 kB_7) (Eq.trans (r_iadd d355_115) (Eq.trans (r_iald d355_116 (o_t0.2.2.2.2.2.2.2.2.2.2.2.1)) (q_ite (Eq.trans (r_bp d355_117 kB_62) (Eq.trans (r_cne d355_119 rfl) (q_ite (Eq.trans (r_il_n d355_122 rfl) (Eq.trans (r_al_n d355_123 rfl) (Eq.trans (r_getRe d355_124 f355_35 o_t0.2.1 (o_t0.2.2.2.2.2.2.2.2.2.2.1) (Nat.le_trans o_t0.1 (Nat.le_add_right _ _))) (Eq.trans (r_il_n d355_127 rfl) (Eq.trans (r_ic d355_128 kI_2) (Eq.trans (r_iadd d355_129) (Eq.trans (r_iald d355_130 (o_t0.2.2.2.2.2.2.2.2.2.2.2.1)) (q_ite (Eq.trans (r_cle d355_131 rfl) (q_ite (Eq.trans (r_ic d355_138 kI_0) (Eq.trans (r_goto d355_139 rfl) (rfl))) (Eq.trans (r_ic d355_134 kI_1) (Eq.trans (r_goto d355_135 rfl) (rfl))))) rfl)))))))) (Eq.trans (r_il_n d355_142 rfl) (Eq.trans (r_al_n d355_143 rfl) (Eq.trans (r_getRe d355_144 f355_35 o_t0.2.1 (o_t0.2.2.2.2.2.2.2.2.2.2.1) (Nat.le_trans o_t0.1 (Nat.le_add_right _ _))) (Eq.trans (r_il_n d355_147 rfl) (Eq.trans (r_ic d355_148 kI_2) (Eq.trans (r_iadd d355_149) (Eq.trans (r_iald d355_150 (o_t0.2.2.2.2.2.2.2.2.2.2.2.1)) (q_ite (Eq.trans (r_cne d355_151 rfl) (q_ite (Eq.trans (r_ic d355_154 kI_1) (Eq.trans (r_goto d355_155 rfl) (rfl))) (Eq.trans (r_ic d355_158 kI_0) (rfl)))) rfl))))))))))) rfl)))))))))) rfl)))))))) rfl))) rfl)))))))))))))))))) rfl))))))
theorem b355_31 {t0 : Nat} {x1 x2 s0 : Int32}  : hs_R scr d 355 31 [some (.ref t0), some (.int x1), some (.int x2), none] [.int s0] (S, I, L, R) = (if s0 = 0 ∨ s0 = 1 then some (some (.int s0), (S, I, L, R)) else none) := r_rz d355_31 rt355
theorem b355_48 {t0 : Nat} {x1 x2 s0 : Int32}  : hs_R scr d 355 48 [some (.ref t0), some (.int x1), some (.int x2), none] [.int s0] (S, I, L, R) = (if s0 = 0 then hs_R scr d 355 56 [some (.ref t0), some (.int x1), some (.int x2), none] [.int 1] (S, I, L, R) else hs_R scr d 355 56 [some (.ref t0), some (.int x1), some (.int x2), none] [.int 0] (S, I, L, R)) := Eq.trans (r_zne d355_48 rfl) (q_ite (Eq.trans (r_ic d355_51 kI_1) (Eq.trans (r_goto d355_52 rfl) (rfl))) (Eq.trans (r_ic d355_55 kI_0) (rfl)))
theorem b355_56 {t0 : Nat} {x1 x2 s0 : Int32}  : hs_R scr d 355 56 [some (.ref t0), some (.int x1), some (.int x2), none] [.int s0] (S, I, L, R) = (if s0 = 0 ∨ s0 = 1 then some (some (.int s0), (S, I, L, R)) else none) := r_rz d355_56 rt355
theorem b355_159 {t0 : Nat} {x1 x2 x3 s0 : Int32}  : hs_R scr d 355 159 [some (.ref t0), some (.int x1), some (.int x2), some (.int x3)] [.int s0] (S, I, L, R) = (if s0 = 0 ∨ s0 = 1 then some (some (.int s0), (S, I, L, R)) else none) := r_rz d355_159 rt355
theorem e356 {t0 : Nat} {x1 : Int32} : hs_C scr d 356 [.ref t0, .int x1] h = hs_R scr d 356 0 [some (.ref t0), some (.int x1)] [] h := by rw [hs_C, mL356]; rfl
theorem b356_0 {t0 : Nat} {x1 : Int32} (o_t0 : ok11 S R t0) : hs_R scr (d + 1) 356 0 [some (.ref t0), some (.int x1)] [] (S, I, L, R) = ((hs_C scr d 223 [.long (Int32.toInt64 x1), .long 0, .long 4] (S, (hs_u (hs_u I t0 1 0) t0 0 0), L, R)).bind fun o => hs_R scr (d + 1) 356 19 [some (.ref t0), some (.int x1)] (o.1.toList ++ []) o.2) := Eq.trans (r_al_n d356_0 rfl) (Eq.trans (r_ic d356_1 kI_0) (Eq.trans (r_putI d356_2 f356_60 o_t0.2.1) (Eq.trans (r_al_n d356_5 rfl) (Eq.trans (r_ic d356_6 kI_0) (Eq.trans (r_putI d356_7 f356_63 o_t0.2.1) (Eq.trans (r_il_n d356_10 rfl) (Eq.trans (r_i2l d356_11) (Eq.trans (r_lc d356_12 kL_0) (Eq.trans (r_ldc2 d356_13 cl356_408) (r_cs (as := [.long (Int32.toInt64 x1), .long 0, .long 4]) (r := []) d356_16 c356_95 np223.symm rfl (hs_fitE mL223 (Nat.le_of_ble_eq_true rfl))))))))))))
theorem b356_19 {t0 : Nat} {x1 s0 : Int32} (o_t0 : ok11 S R t0) : hs_R scr (d + 1) 356 19 [some (.ref t0), some (.int x1)] [.int s0] (S, I, L, R) = (if s0 = 0 then ((hs_C scr d 265 [.ref t0, .int 5] (S, I, L, R)).bind fun o => hs_R scr (d + 1) 356 27 [some (.ref t0), some (.int x1)] (o.1.toList ++ []) o.2) else (if (I t0 31) = 0 then ((hs_C scr d 265 [.ref t0, .int 8] (S, I, L, R)).bind fun o => hs_R scr (d + 1) 356 50 [some (.ref t0), some (.int x1)] (o.1.toList ++ []) o.2) else (if hs_ib x1 5 = true then hs_R scr (d + 1) 356 50 [some (.ref t0), some (.int x1)] [.int (I (t0 + 11) (Int32.toNatClampNeg x1))] (S, I, L, R) else none))) := Eq.trans (r_zne d356_19 rfl) (q_ite (Eq.trans (r_al_n d356_22 rfl) (Eq.trans (r_ic d356_23 kI_5) (r_cvE (as := [.int 5]) (r := []) d356_24 c356_322 ow265 o_t0.2.1 np265.symm rfl (hs_fitE mL265 (Nat.le_of_ble_eq_true rfl))))) (Eq.trans (r_al_n d356_28 rfl) (Eq.trans (r_getZ d356_29 f356_522 o_t0.2.1) (Eq.trans (r_zeq d356_32 rfl) (q_ite (Eq.trans (r_al_n d356_44 rfl) (Eq.trans (r_bp d356_45 kB_8) (r_cvE (as := [.int 8]) (r := []) d356_47 c356_322 ow265 o_t0.2.1 np265.symm rfl (hs_fitE mL265 (Nat.le_of_ble_eq_true rfl))))) (Eq.trans (r_al_n d356_35 rfl) (Eq.trans (r_getRe d356_36 f356_53 o_t0.2.1 (o_t0.2.2.2.2.2.2.2.2.2.2.2.2.2.2.2.2.2.2.2.2.2.2.1) (Nat.le_trans o_t0.1 (Nat.le_add_right _ _))) (Eq.trans (r_il_n d356_39 rfl) (Eq.trans (r_iald d356_40 (o_t0.2.2.2.2.2.2.2.2.2.2.2.2.2.2.2.2.2.2.2.2.2.2.2)) (q_ite (Eq.trans (r_goto d356_41 rfl) (rfl)) rfl))))))))))
theorem b356_27 {t0 : Nat} {x1 s0 : Int32}  : hs_R scr d 356 27 [some (.ref t0), some (.int x1)] [.int s0] (S, I, L, R) = some (some (.int s0), (S, I, L, R)) := r_ri d356_27 rt356
theorem b356_50 {t0 : Nat} {x1 s0 : Int32}  : hs_R scr d 356 50 [some (.ref t0), some (.int x1)] [.int s0] (S, I, L, R) = some (some (.int s0), (S, I, L, R)) := r_ri d356_50 rt356
theorem e357 {t0 : Nat} {x1 : Int32} {x2 : Int32} : hs_C scr d 357 [.ref t0, .int x1, .int x2] h = hs_R scr d 357 0 [some (.ref t0), some (.int x1), some (.int x2), none, none, none, none] [] h := by rw [hs_C, mL357]; rfl
theorem b357_0 {t0 : Nat} {x1 x2 : Int32} (o_t0 : ok11 S R t0) : hs_R scr (d + 1) 357 0 [some (.ref t0), some (.int x1), some (.int x2), none, none, none, none] [] (S, I, L, R) = ((hs_C scr d 223 [.long (Int32.toInt64 x2), .long 1, .long 20] (S, (hs_u (hs_u I t0 1 0) t0 0 0), L, R)).bind fun o => hs_R scr (d + 1) 357 19 [some (.ref t0), some (.int x1), some (.int x2), none, none, none, none] (o.1.toList ++ []) o.2) := Eq.trans (r_al_n d357_0 rfl) (Eq.trans (r_ic d357_1 kI_0) (Eq.trans (r_putI d357_2 f357_60 o_t0.2.1) (Eq.trans (r_al_n d357_5 rfl) (Eq.trans (r_ic d357_6 kI_0) (Eq.trans (r_putI d357_7 f357_63 o_t0.2.1) (Eq.trans (r_il_n d357_10 rfl) (Eq.trans (r_i2l d357_11) (Eq.trans (r_lc d357_12 kL_1) (Eq.trans (r_ldc2 d357_13 cl357_439) (r_cs (as := [.long (Int32.toInt64 x2), .long 1, .long 20]) (r := []) d357_16 c357_95 np223.symm rfl (hs_fitE mL223 (Nat.le_of_ble_eq_true rfl))))))))))))
theorem b357_19 {t0 : Nat} {x1 x2 s0 : Int32}  : hs_R scr (d + 1) 357 19 [some (.ref t0), some (.int x1), some (.int x2), none, none, none, none] [.int s0] (S, I, L, R) = (if s0 = 0 then hs_R scr (d + 1) 357 37 [some (.ref t0), some (.int x1), some (.int x2), none, none, none, none] [] (S, I, L, R) else ((hs_C scr d 223 [.long (Int32.toInt64 x1), .long 0, .long (Int32.toInt64 ((10000 : Int32) - x2))] (S, I, L, R)).bind fun o => hs_R scr (d + 1) 357 34 [some (.ref t0), some (.int x1), some (.int x2), none, none, none, none] (o.1.toList ++ []) o.2)) := Eq.trans (r_zeq d357_19 rfl) (q_ite (rfl) (Eq.trans (r_il_n d357_22 rfl) (Eq.trans (r_i2l d357_23) (Eq.trans (r_lc d357_24 kL_0) (Eq.trans (r_sp d357_25 kS_10000) (Eq.trans (r_il_n d357_28 rfl) (Eq.trans (r_isub d357_29) (Eq.trans (r_i2l d357_30) (r_cs (as := [.long (Int32.toInt64 x1), .long 0, .long (Int32.toInt64 ((10000 : Int32) - x2))]) (r := []) d357_31 c357_95 np223.symm rfl (hs_fitE mL223 (Nat.le_of_ble_eq_true rfl)))))))))))
theorem b357_34 {t0 : Nat} {x1 x2 s0 : Int32} (o_t0 : ok11 S R t0) : hs_R scr (d + 1) 357 34 [some (.ref t0), some (.int x1), some (.int x2), none, none, none, none] [.int s0] (S, I, L, R) = (if s0 = 0 then hs_R scr (d + 1) 357 37 [some (.ref t0), some (.int x1), some (.int x2), none, none, none, none] [] (S, I, L, R) else (if (I (t0 + 5) 127) = 0 then ((hs_C scr d 197 [.ref t0, .int 8] (S, I, L, R)).bind fun o => hs_R scr (d + 1) 357 59 [some (.ref t0), some (.int x1), some (.int x2), none, none, none, none] (o.1.toList ++ []) o.2) else hs_R scr (d + 1) 357 62 [some (.ref t0), some (.int x1), some (.int x2), some (.int 0), none, none, none] [] (S, I, L, R))) := Eq.trans (r_zne d357_34 rfl) (q_ite (rfl) (Eq.trans (r_al_n d357_43 rfl) (Eq.trans (r_getRe d357_44 f357_35 o_t0.2.1 (o_t0.2.2.2.2.2.2.2.2.2.2.1) (Nat.le_trans o_t0.1 (Nat.le_add_right _ _))) (Eq.trans (r_bp d357_47 kB_127) (Eq.trans ((r_ialdC d357_49 (o_t0.2.2.2.2.2.2.2.2.2.2.2.1) ib_127_1995 tn_127)) (Eq.trans (r_zne d357_50 rfl) (q_ite (Eq.trans (r_al_n d357_53 rfl) (Eq.trans (r_bp d357_54 kB_8) (r_cvE (as := [.int 8]) (r := []) d357_56 c357_75 ow197 o_t0.2.1 np197.symm rfl (hs_fitE mL197 (Nat.le_of_ble_eq_true rfl))))) (Eq.trans (r_ic d357_60 kI_0) (Eq.trans (r_is_n (loc' := [some (.ref t0), some (.int x1), some (.int x2), some (.int 0), none, none, none]) d357_61 rfl) (rfl))))))))))
theorem b357_37 {t0 : Nat} {x1 x2 : Int32} (o_t0 : ok11 S R t0) : hs_R scr (d + 1) 357 37 [some (.ref t0), some (.int x1), some (.int x2), none, none, none, none] [] (S, I, L, R) = ((hs_C scr d 197 [.ref t0, .int 5] (S, I, L, R)).bind fun o => hs_R scr (d + 1) 357 42 [some (.ref t0), some (.int x1), some (.int x2), none, none, none, none] (o.1.toList ++ []) o.2) := Eq.trans (r_al_n d357_37 rfl) (Eq.trans (r_ic d357_38 kI_5) (r_cvE (as := [.int 5]) (r := []) d357_39 c357_75 ow197 o_t0.2.1 np197.symm rfl (hs_fitE mL197 (Nat.le_of_ble_eq_true rfl))))
theorem b357_42 {t0 : Nat} {x1 x2 s0 : Int32}  : hs_R scr d 357 42 [some (.ref t0), some (.int x1), some (.int x2), none, none, none, none] [.int s0] (S, I, L, R) = (if s0 = 0 ∨ s0 = 1 then some (some (.int s0), (S, I, L, R)) else none) := r_rz d357_42 rt357
theorem b357_59 {t0 : Nat} {x1 x2 s0 : Int32}  : hs_R scr d 357 59 [some (.ref t0), some (.int x1), some (.int x2), none, none, none, none] [.int s0] (S, I, L, R) = (if s0 = 0 ∨ s0 = 1 then some (some (.int s0), (S, I, L, R)) else none) := r_rz d357_59 rt357
theorem b357_62 {t0 : Nat} {x1 x2 x3 : Int32} (o_t0 : ok11 S R t0) : hs_R scr d 357 62 [some (.ref t0), some (.int x1), some (.int x2), some (.int x3), none, none, none] [] (S, I, L, R) = (if (127 : Int32) ≤ x3 then hs_R scr d 357 91 [some (.ref t0), some (.int x1), some (.int x2), some (.long 0), none, some (.int 0), none] [] (S, I, L, R) else (if hs_ib x3 1995 = true then (if hs_ib x3 127 = true then hs_R scr d 357 62 [some (.ref t0), some (.int x1), some (.int x2), some (.int (x3 + 1)), none, none, none] [] (S, (hs_u I (t0 + 7) (Int32.toNatClampNeg x3) (I (t0 + 5) (Int32.toNatClampNeg x3))), L, R) else none) else none)) := Eq.trans (r_il_n d357_62 rfl) (Eq.trans (r_bp d357_63 kB_127) (Eq.trans (r_cge d357_65 rfl) (q_ite (Eq.trans (r_lc d357_86 kL_0) (Eq.trans (r_ls_n (loc' := [some (.ref t0), some (.int x1), some (.int x2), some (.long 0), none, none, none]) d357_87 rfl) (Eq.trans (r_ic d357_88 kI_0) (Eq.trans (r_is (loc' := [some (.ref t0), some (.int x1), some (.int x2), some (.long 0), none, some (.int 0), none]) d357_89 rfl) (rfl))))) (Eq.trans (r_al_n d357_68 rfl) (Eq.trans (r_getRe d357_69 f357_41 o_t0.2.1 (o_t0.2.2.2.2.2.2.2.2.2.2.2.2.2.2.1) (Nat.le_trans o_t0.1 (Nat.le_add_right _ _))) (Eq.trans (r_il_n d357_72 rfl) (Eq.trans (r_al_n d357_73 rfl) (Eq.trans (r_getRe d357_74 f357_35 o_t0.2.1 (o_t0.2.2.2.2.2.2.2.2.2.2.1) (Nat.le_trans o_t0.1 (Nat.le_add_right _ _))) (Eq.trans (r_il_n d357_77 rfl) (Eq.trans (r_iald d357_78 (o_t0.2.2.2.2.2.2.2.2.2.2.2.1)) (q_ite (Eq.trans (r_iast d357_79 (o_t0.2.2.2.2.2.2.2.2.2.2.2.2.2.2.2.1)) (q_ite (Eq.trans (r_inc (loc' := [some (.ref t0), some (.int x1), some (.int x2), some (.int (x3 + 1)), none, none, none]) d357_80 kI_1 rfl rfl) (Eq.trans (r_goto d357_83 rfl) (rfl))) rfl)) rfl)))))))))))
theorem b357_91 {t0 : Nat} {x1 x2 x5 : Int32} {y3 : Int64} {w6 : Option Value} (o_t0 : ok11 S R t0) : hs_R scr (d + 1) 357 91 [some (.ref t0), some (.int x1), some (.int x2), some (.long y3), none, some (.int x5), w6] [] (S, I, L, R) = (if x2 ≤ x5 then ((hs_C scr d 344 [.ref t0, .long y3, .long (Int32.toInt64 x2)] (S, I, L, R)).bind fun o => hs_R scr (d + 1) 357 163 [some (.ref t0), some (.int x1), some (.int x2), some (.long y3), none, some (.int x5), w6] (o.1.toList ++ []) o.2) else ((hs_C scr d 347 [.ref t0, .int (x1 + x5)] (S, I, L, R)).bind fun o => hs_R scr (d + 1) 357 105 [some (.ref t0), some (.int x1), some (.int x2), some (.long y3), none, some (.int x5), w6] (o.1.toList ++ []) o.2)) := Eq.trans (r_il d357_91 rfl) (Eq.trans (r_il_n d357_93 rfl) (Eq.trans (r_cge d357_94 rfl) (q_ite (Eq.trans (r_al_n d357_156 rfl) (Eq.trans (r_ll_n d357_157 rfl) (Eq.trans (r_il_n d357_158 rfl) (Eq.trans (r_i2l d357_159) (r_cvE (as := [.long y3, .long (Int32.toInt64 x2)]) (r := []) d357_160 c357_462 ow344 o_t0.2.1 np344.symm rfl (hs_fitE mL344 (Nat.le_of_ble_eq_true rfl))))))) (Eq.trans (r_al_n d357_97 rfl) (Eq.trans (r_il_n d357_98 rfl) (Eq.trans (r_il d357_99 rfl) (Eq.trans (r_iadd d357_101) (r_cvE (as := [.int (x1 + x5)]) (r := []) d357_102 c357_519 ow347 o_t0.2.1 np347.symm rfl (hs_fitE mL347 (Nat.le_of_ble_eq_true rfl))))))))))
theorem b357_105 {t0 : Nat} {x1 x2 x5 : Int32} {y3 : Int64} {w6 : Option Value} (o_t0 : ok11 S R t0) : hs_R scr (d + 1) 357 105 [some (.ref t0), some (.int x1), some (.int x2), some (.long y3), none, some (.int x5), w6] [] (S, I, L, R) = ((hs_C scr d 269 [.ref t0, .int 0, .int (I (t0 + 5) 0)] (S, I, L, R)).bind fun o => hs_R scr (d + 1) 357 117 [some (.ref t0), some (.int x1), some (.int x2), some (.long y3), none, some (.int x5), w6] (o.1.toList ++ [.long y3]) o.2) := Eq.trans (r_ll_n d357_105 rfl) (Eq.trans (r_al_n d357_106 rfl) (Eq.trans (r_ic d357_107 kI_0) (Eq.trans (r_al_n d357_108 rfl) (Eq.trans (r_getRe d357_109 f357_35 o_t0.2.1 (o_t0.2.2.2.2.2.2.2.2.2.2.1) (Nat.le_trans o_t0.1 (Nat.le_add_right _ _))) (Eq.trans (r_ic d357_112 kI_0) (Eq.trans ((r_ialdC d357_113 (o_t0.2.2.2.2.2.2.2.2.2.2.2.1) ib_0_1995 tn_0)) (r_cvE (as := [.int 0, .int (I (t0 + 5) 0)]) (r := [.long y3]) d357_114 c357_334 ow269 o_t0.2.1 np269.symm rfl (hs_fitE mL269 (Nat.le_of_ble_eq_true rfl)))))))))
theorem b357_117 {t0 : Nat} {x1 x2 x5 s1 : Int32} {y3 v0 : Int64} {w6 : Option Value}  : hs_R scr d 357 117 [some (.ref t0), some (.int x1), some (.int x2), some (.long y3), none, some (.int x5), w6] [.int s1, .long v0] (S, I, L, R) = hs_R scr d 357 123 [some (.ref t0), some (.int x1), some (.int x2), some (.long (v0 + (Int32.toInt64 s1))), none, some (.int x5), some (.int 0)] [] (S, I, L, R) := Eq.trans (r_i2l d357_117) (Eq.trans (r_ladd d357_118) (Eq.trans (r_ls_n (loc' := [some (.ref t0), some (.int x1), some (.int x2), some (.long (v0 + (Int32.toInt64 s1))), none, some (.int x5), w6]) d357_119 rfl) (Eq.trans (r_ic d357_120 kI_0) (Eq.trans (r_is (loc' := [some (.ref t0), some (.int x1), some (.int x2), some (.long (v0 + (Int32.toInt64 s1))), none, some (.int x5), some (.int 0)]) d357_121 rfl) (rfl)))))
theorem b357_123 {t0 : Nat} {x1 x2 x5 x6 : Int32} {y3 : Int64} (o_t0 : ok11 S R t0) : hs_R scr d 357 123 [some (.ref t0), some (.int x1), some (.int x2), some (.long y3), none, some (.int x5), some (.int x6)] [] (S, I, L, R) = (if (127 : Int32) ≤ x6 then hs_R scr d 357 91 [some (.ref t0), some (.int x1), some (.int x2), some (.long y3), none, some (.int (x5 + 1)), some (.int x6)] [] (S, I, L, R) else (if hs_ib x6 127 = true then (if hs_ib x6 1995 = true then hs_R scr d 357 123 [some (.ref t0), some (.int x1), some (.int x2), some (.long y3), none, some (.int x5), some (.int (x6 + 1))] [] (S, (hs_u I (t0 + 5) (Int32.toNatClampNeg x6) (I (t0 + 7) (Int32.toNatClampNeg x6))), L, R) else none) else none)) := Eq.trans (r_il d357_123 rfl) (Eq.trans (r_bp d357_125 kB_127) (Eq.trans (r_cge d357_127 rfl) (q_ite (Eq.trans (r_inc (loc' := [some (.ref t0), some (.int x1), some (.int x2), some (.long y3), none, some (.int (x5 + 1)), some (.int x6)]) d357_150 kI_1 rfl rfl) (Eq.trans (r_goto d357_153 rfl) (rfl))) (Eq.trans (r_al_n d357_130 rfl) (Eq.trans (r_getRe d357_131 f357_35 o_t0.2.1 (o_t0.2.2.2.2.2.2.2.2.2.2.1) (Nat.le_trans o_t0.1 (Nat.le_add_right _ _))) (Eq.trans (r_il d357_134 rfl) (Eq.trans (r_al_n d357_136 rfl) (Eq.trans (r_getRe d357_137 f357_41 o_t0.2.1 (o_t0.2.2.2.2.2.2.2.2.2.2.2.2.2.2.1) (Nat.le_trans o_t0.1 (Nat.le_add_right _ _))) (Eq.trans (r_il d357_140 rfl) (Eq.trans (r_iald d357_142 (o_t0.2.2.2.2.2.2.2.2.2.2.2.2.2.2.2.1)) (q_ite (Eq.trans (r_iast d357_143 (o_t0.2.2.2.2.2.2.2.2.2.2.2.1)) (q_ite (Eq.trans (r_inc (loc' := [some (.ref t0), some (.int x1), some (.int x2), some (.long y3), none, some (.int x5), some (.int (x6 + 1))]) d357_144 kI_1 rfl rfl) (Eq.trans (r_goto d357_147 rfl) (rfl))) rfl)) rfl)))))))))))
theorem b357_163 {t0 : Nat} {x1 x2 x5 s0 : Int32} {y3 : Int64} {w6 : Option Value}  : hs_R scr d 357 163 [some (.ref t0), some (.int x1), some (.int x2), some (.long y3), none, some (.int x5), w6] [.int s0] (S, I, L, R) = (if s0 = 0 ∨ s0 = 1 then some (some (.int s0), (S, I, L, R)) else none) := r_rz d357_163 rt357
theorem e358 {t0 : Nat} : hs_C scr d 358 [.ref t0] h = hs_R scr d 358 0 [some (.ref t0)] [] h := by rw [hs_C, mL358]; rfl
theorem b358_0 {t0 : Nat} (o_t0 : ok11 S R t0) : hs_R scr (d + 1) 358 0 [some (.ref t0)] [] (S, I, L, R) = (if ((hs_u (hs_u I t0 1 0) t0 0 0) t0 24) = 3 then ((hs_C scr d 265 [.ref t0, .int 7] (S, (hs_u (hs_u I t0 1 0) t0 0 0), L, R)).bind fun o => hs_R scr (d + 1) 358 24 [some (.ref t0)] (o.1.toList ++ []) o.2) else ((hs_C scr d 259 [.ref t0, .int 0, .int ((hs_u (hs_u (hs_u I t0 1 0) t0 0 0) t0 24 (((hs_u (hs_u I t0 1 0) t0 0 0) t0 24) + 1)) t0 24)] (S, (hs_u (hs_u (hs_u I t0 1 0) t0 0 0) t0 24 (((hs_u (hs_u I t0 1 0) t0 0 0) t0 24) + 1)), L, R)).bind fun o => hs_R scr (d + 1) 358 44 [some (.ref t0)] (o.1.toList ++ []) o.2)) := Eq.trans (r_al_n d358_0 rfl) (Eq.trans (r_ic d358_1 kI_0) (Eq.trans (r_putI d358_2 f358_60 o_t0.2.1) (Eq.trans (r_al_n d358_5 rfl) (Eq.trans (r_ic d358_6 kI_0) (Eq.trans (r_putI d358_7 f358_63 o_t0.2.1) (Eq.trans (r_al_n d358_10 rfl) (Eq.trans (r_getI d358_11 f358_525 o_t0.2.1) (Eq.trans (r_ic d358_14 kI_3) (Eq.trans (r_cne d358_15 rfl) (q_ite (Eq.trans (r_al_n d358_18 rfl) (Eq.trans (r_bp d358_19 kB_7) (r_cvE (as := [.int 7]) (r := []) d358_21 c358_322 ow265 o_t0.2.1 np265.symm rfl (hs_fitE mL265 (Nat.le_of_ble_eq_true rfl))))) (Eq.trans (r_al_n d358_25 rfl) (Eq.trans (r_dup d358_26 rfl) (Eq.trans (r_getI d358_27 f358_525 o_t0.2.1) (Eq.trans (r_ic d358_30 kI_1) (Eq.trans (r_iadd d358_31) (Eq.trans (r_putI d358_32 f358_525 o_t0.2.1) (Eq.trans (r_al_n d358_35 rfl) (Eq.trans (r_ic d358_36 kI_0) (Eq.trans (r_al_n d358_37 rfl) (Eq.trans (r_getI d358_38 f358_525 o_t0.2.1) (r_cvE (as := [.int 0, .int ((hs_u (hs_u (hs_u I t0 1 0) t0 0 0) t0 24 (((hs_u (hs_u I t0 1 0) t0 0 0) t0 24) + 1)) t0 24)]) (r := []) d358_41 c358_302 ow259 o_t0.2.1 np259.symm rfl (hs_fitE mL259 (Nat.le_of_ble_eq_true rfl)))))))))))))))))))))))
theorem b358_24 {t0 : Nat} {s0 : Int32}  : hs_R scr d 358 24 [some (.ref t0)] [.int s0] (S, I, L, R) = some (some (.int s0), (S, I, L, R)) := r_ri d358_24 rt358
theorem b358_44 {t0 : Nat} (o_t0 : ok11 S R t0) : hs_R scr d 358 44 [some (.ref t0)] [] (S, I, L, R) = some (some (.int (I t0 24)), (S, I, L, R)) := Eq.trans (r_al_n d358_44 rfl) (Eq.trans (r_getI d358_45 f358_525 o_t0.2.1) (r_ri d358_48 rt358))
theorem e359 {t0 : Nat} : hs_C scr d 359 [.ref t0] h = hs_R scr d 359 0 [some (.ref t0)] [] h := by rw [hs_C, mL359]; rfl
theorem b359_0 {t0 : Nat} (o_t0 : ok11 S R t0) : hs_R scr (d + 1) 359 0 [some (.ref t0)] [] (S, I, L, R) = (if ((hs_u (hs_u I t0 1 0) t0 0 0) t0 24) = 0 then ((hs_C scr d 265 [.ref t0, .int 8] (S, (hs_u (hs_u I t0 1 0) t0 0 0), L, R)).bind fun o => hs_R scr (d + 1) 359 23 [some (.ref t0)] (o.1.toList ++ []) o.2) else ((hs_C scr d 259 [.ref t0, .int ((hs_u (hs_u I t0 1 0) t0 0 0) t0 24), .int 0] (S, (hs_u (hs_u I t0 1 0) t0 0 0), L, R)).bind fun o => hs_R scr (d + 1) 359 33 [some (.ref t0)] (o.1.toList ++ []) o.2)) := Eq.trans (r_al_n d359_0 rfl) (Eq.trans (r_ic d359_1 kI_0) (Eq.trans (r_putI d359_2 f359_60 o_t0.2.1) (Eq.trans (r_al_n d359_5 rfl) (Eq.trans (r_ic d359_6 kI_0) (Eq.trans (r_putI d359_7 f359_63 o_t0.2.1) (Eq.trans (r_al_n d359_10 rfl) (Eq.trans (r_getI d359_11 f359_525 o_t0.2.1) (Eq.trans (r_zne d359_14 rfl) (q_ite (Eq.trans (r_al_n d359_17 rfl) (Eq.trans (r_bp d359_18 kB_8) (r_cvE (as := [.int 8]) (r := []) d359_20 c359_322 ow265 o_t0.2.1 np265.symm rfl (hs_fitE mL265 (Nat.le_of_ble_eq_true rfl))))) (Eq.trans (r_al_n d359_24 rfl) (Eq.trans (r_al_n d359_25 rfl) (Eq.trans (r_getI d359_26 f359_525 o_t0.2.1) (Eq.trans (r_ic d359_29 kI_0) (r_cvE (as := [.int ((hs_u (hs_u I t0 1 0) t0 0 0) t0 24), .int 0]) (r := []) d359_30 c359_302 ow259 o_t0.2.1 np259.symm rfl (hs_fitE mL259 (Nat.le_of_ble_eq_true rfl))))))))))))))))
theorem b359_23 {t0 : Nat} {s0 : Int32}  : hs_R scr d 359 23 [some (.ref t0)] [.int s0] (S, I, L, R) = some (some (.int s0), (S, I, L, R)) := r_ri d359_23 rt359
theorem b359_33 {t0 : Nat} (o_t0 : ok11 S R t0) : hs_R scr d 359 33 [some (.ref t0)] [] (S, I, L, R) = some (some (.int ((hs_u I t0 24 ((I t0 24) - 1)) t0 24)), (S, (hs_u I t0 24 ((I t0 24) - 1)), L, R)) := Eq.trans (r_al_n d359_33 rfl) (Eq.trans (r_dup d359_34 rfl) (Eq.trans (r_getI d359_35 f359_525 o_t0.2.1) (Eq.trans (r_ic d359_38 kI_1) (Eq.trans (r_isub d359_39) (Eq.trans (r_putI d359_40 f359_525 o_t0.2.1) (Eq.trans (r_al_n d359_43 rfl) (Eq.trans (r_getI d359_44 f359_525 o_t0.2.1) (r_ri d359_47 rt359))))))))
end BB

/-! blocks: written by gen/mkblocks.py -/
theorem c155_120 : hs_cal (hs_own 155) 120 = some (0, 28) := by decide +kernel
theorem c155_173 : hs_cal (hs_own 155) 173 = some (0, 68) := by decide +kernel
theorem c156_120 : hs_cal (hs_own 156) 120 = some (0, 28) := by decide +kernel
theorem c156_173 : hs_cal (hs_own 156) 173 = some (0, 68) := by decide +kernel
theorem c156_347 : hs_cal (hs_own 156) 347 = some (0, 157) := by decide +kernel
theorem c156_351 : hs_cal (hs_own 156) 351 = some (0, 158) := by decide +kernel
theorem c163_120 : hs_cal (hs_own 163) 120 = some (0, 28) := by decide +kernel
theorem c163_173 : hs_cal (hs_own 163) 173 = some (0, 68) := by decide +kernel
theorem c163_347 : hs_cal (hs_own 163) 347 = some (0, 157) := by decide +kernel
theorem c163_354 : hs_cal (hs_own 163) 354 = some (0, 164) := by decide +kernel
theorem c165_101 : hs_cal (hs_own 165) 101 = some (0, 18) := by decide +kernel
theorem c165_232 : hs_cal (hs_own 165) 232 = some (0, 95) := by decide +kernel
theorem c165_357 : hs_cal (hs_own 165) 357 = some (0, 166) := by decide +kernel
theorem c165_360 : hs_cal (hs_own 165) 360 = some (1, 167) := by decide +kernel
theorem c165_364 : hs_cal (hs_own 165) 364 = some (0, 168) := by decide +kernel
theorem c168_108 : hs_cal (hs_own 168) 108 = some (0, 20) := by decide +kernel
theorem c168_395 : hs_cal (hs_own 168) 395 = some (1, 169) := by decide +kernel
theorem c170_101 : hs_cal (hs_own 170) 101 = some (0, 18) := by decide +kernel
theorem c170_214 : hs_cal (hs_own 170) 214 = some (0, 91) := by decide +kernel
theorem c170_364 : hs_cal (hs_own 170) 364 = some (0, 168) := by decide +kernel
theorem c170_368 : hs_cal (hs_own 170) 368 = some (0, 87) := by decide +kernel
theorem c171_120 : hs_cal (hs_own 171) 120 = some (0, 28) := by decide +kernel
theorem c171_173 : hs_cal (hs_own 171) 173 = some (0, 68) := by decide +kernel
theorem c171_374 : hs_cal (hs_own 171) 374 = some (0, 172) := by decide +kernel
theorem c182_120 : hs_cal (hs_own 182) 120 = some (0, 28) := by decide +kernel
theorem c182_173 : hs_cal (hs_own 182) 173 = some (0, 68) := by decide +kernel
theorem c182_382 : hs_cal (hs_own 182) 382 = some (0, 183) := by decide +kernel
theorem c184_101 : hs_cal (hs_own 184) 101 = some (0, 18) := by decide +kernel
theorem c184_250 : hs_cal (hs_own 184) 250 = some (0, 86) := by decide +kernel
theorem c184_364 : hs_cal (hs_own 184) 364 = some (0, 168) := by decide +kernel
theorem c184_374 : hs_cal (hs_own 184) 374 = some (0, 172) := by decide +kernel
theorem c184_385 : hs_cal (hs_own 184) 385 = some (0, 185) := by decide +kernel
theorem c188_120 : hs_cal (hs_own 188) 120 = some (0, 28) := by decide +kernel
theorem c188_173 : hs_cal (hs_own 188) 173 = some (0, 68) := by decide +kernel
theorem c188_385 : hs_cal (hs_own 188) 385 = some (0, 185) := by decide +kernel
theorem c188_392 : hs_cal (hs_own 188) 392 = some (0, 189) := by decide +kernel
theorem c190_120 : hs_cal (hs_own 190) 120 = some (0, 28) := by decide +kernel
theorem c190_173 : hs_cal (hs_own 190) 173 = some (0, 68) := by decide +kernel
theorem c190_385 : hs_cal (hs_own 190) 385 = some (0, 185) := by decide +kernel
theorem c190_392 : hs_cal (hs_own 190) 392 = some (0, 189) := by decide +kernel
theorem d155_0 : decode (hs_code 155) 0 = .ok (.iload_n 1, 1) := by decide +kernel
theorem d155_1 : decode (hs_code 155) 1 = .ok (.ifCond .lt 14, 3) := by decide +kernel
theorem d155_4 : decode (hs_code 155) 4 = .ok (.iload_n 1, 1) := by decide +kernel
theorem d155_5 : decode (hs_code 155) 5 = .ok (.aload_n 0, 1) := by decide +kernel
theorem d155_6 : decode (hs_code 155) 6 = .ok (.getfield 60, 3) := by decide +kernel
theorem d155_9 : decode (hs_code 155) 9 = .ok (.getfield 344, 3) := by decide +kernel
theorem d155_12 : decode (hs_code 155) 12 = .ok (.if_icmp .lt 9, 3) := by decide +kernel
theorem d155_15 : decode (hs_code 155) 15 = .ok (.aload_n 0, 1) := by decide +kernel
theorem d155_16 : decode (hs_code 155) 16 = .ok (.iconst 2, 1) := by decide +kernel
theorem d155_17 : decode (hs_code 155) 17 = .ok (.invokevirtual 120, 3) := by decide +kernel
theorem d155_20 : decode (hs_code 155) 20 = .ok (.ireturn, 1) := by decide +kernel
theorem d155_21 : decode (hs_code 155) 21 = .ok (.iconst 0, 1) := by decide +kernel
theorem d155_22 : decode (hs_code 155) 22 = .ok (.istore_n 2, 1) := by decide +kernel
theorem d155_23 : decode (hs_code 155) 23 = .ok (.iconst 0, 1) := by decide +kernel
theorem d155_24 : decode (hs_code 155) 24 = .ok (.istore_n 3, 1) := by decide +kernel
theorem d155_25 : decode (hs_code 155) 25 = .ok (.iload_n 3, 1) := by decide +kernel
theorem d155_26 : decode (hs_code 155) 26 = .ok (.aload_n 0, 1) := by decide +kernel
theorem d155_27 : decode (hs_code 155) 27 = .ok (.getfield 60, 3) := by decide +kernel
theorem d155_30 : decode (hs_code 155) 30 = .ok (.getfield 238, 3) := by decide +kernel
theorem d155_33 : decode (hs_code 155) 33 = .ok (.if_icmp .ge 66, 3) := by decide +kernel
theorem d155_36 : decode (hs_code 155) 36 = .ok (.aload_n 0, 1) := by decide +kernel
theorem d155_37 : decode (hs_code 155) 37 = .ok (.getfield 60, 3) := by decide +kernel
theorem d155_40 : decode (hs_code 155) 40 = .ok (.getfield 241, 3) := by decide +kernel
theorem d155_43 : decode (hs_code 155) 43 = .ok (.iload_n 3, 1) := by decide +kernel
theorem d155_44 : decode (hs_code 155) 44 = .ok (.iaload, 1) := by decide +kernel
theorem d155_45 : decode (hs_code 155) 45 = .ok (.iload_n 1, 1) := by decide +kernel
theorem d155_46 : decode (hs_code 155) 46 = .ok (.if_icmp .ne 20, 3) := by decide +kernel
theorem d155_49 : decode (hs_code 155) 49 = .ok (.iload_n 2, 1) := by decide +kernel
theorem d155_50 : decode (hs_code 155) 50 = .ok (.iconst 1, 1) := by decide +kernel
theorem d155_51 : decode (hs_code 155) 51 = .ok (.aload_n 0, 1) := by decide +kernel
theorem d155_52 : decode (hs_code 155) 52 = .ok (.getfield 60, 3) := by decide +kernel
theorem d155_55 : decode (hs_code 155) 55 = .ok (.getfield 244, 3) := by decide +kernel
theorem d155_58 : decode (hs_code 155) 58 = .ok (.iload_n 3, 1) := by decide +kernel
theorem d155_59 : decode (hs_code 155) 59 = .ok (.iaload, 1) := by decide +kernel
theorem d155_60 : decode (hs_code 155) 60 = .ok (.ishl, 1) := by decide +kernel
theorem d155_61 : decode (hs_code 155) 61 = .ok (.ior, 1) := by decide +kernel
theorem d155_62 : decode (hs_code 155) 62 = .ok (.istore_n 2, 1) := by decide +kernel
theorem d155_63 : decode (hs_code 155) 63 = .ok (.goto 30, 3) := by decide +kernel
theorem d155_66 : decode (hs_code 155) 66 = .ok (.aload_n 0, 1) := by decide +kernel
theorem d155_67 : decode (hs_code 155) 67 = .ok (.getfield 60, 3) := by decide +kernel
theorem d155_70 : decode (hs_code 155) 70 = .ok (.getfield 244, 3) := by decide +kernel
theorem d155_73 : decode (hs_code 155) 73 = .ok (.iload_n 3, 1) := by decide +kernel
theorem d155_74 : decode (hs_code 155) 74 = .ok (.iaload, 1) := by decide +kernel
theorem d155_75 : decode (hs_code 155) 75 = .ok (.iload_n 1, 1) := by decide +kernel
theorem d155_76 : decode (hs_code 155) 76 = .ok (.if_icmp .ne 17, 3) := by decide +kernel
theorem d155_79 : decode (hs_code 155) 79 = .ok (.iload_n 2, 1) := by decide +kernel
theorem d155_80 : decode (hs_code 155) 80 = .ok (.iconst 1, 1) := by decide +kernel
theorem d155_81 : decode (hs_code 155) 81 = .ok (.aload_n 0, 1) := by decide +kernel
theorem d155_82 : decode (hs_code 155) 82 = .ok (.getfield 60, 3) := by decide +kernel
theorem d155_85 : decode (hs_code 155) 85 = .ok (.getfield 241, 3) := by decide +kernel
theorem d155_88 : decode (hs_code 155) 88 = .ok (.iload_n 3, 1) := by decide +kernel
theorem d155_89 : decode (hs_code 155) 89 = .ok (.iaload, 1) := by decide +kernel
theorem d155_90 : decode (hs_code 155) 90 = .ok (.ishl, 1) := by decide +kernel
theorem d155_91 : decode (hs_code 155) 91 = .ok (.ior, 1) := by decide +kernel
theorem d155_92 : decode (hs_code 155) 92 = .ok (.istore_n 2, 1) := by decide +kernel
theorem d155_93 : decode (hs_code 155) 93 = .ok (.iinc 3 1, 3) := by decide +kernel
theorem d155_96 : decode (hs_code 155) 96 = .ok (.goto (-71), 3) := by decide +kernel
theorem d155_99 : decode (hs_code 155) 99 = .ok (.aload_n 0, 1) := by decide +kernel
theorem d155_100 : decode (hs_code 155) 100 = .ok (.iload_n 2, 1) := by decide +kernel
theorem d155_101 : decode (hs_code 155) 101 = .ok (.invokevirtual 173, 3) := by decide +kernel
theorem d155_104 : decode (hs_code 155) 104 = .ok (.ireturn, 1) := by decide +kernel
theorem d156_0 : decode (hs_code 156) 0 = .ok (.iload_n 1, 1) := by decide +kernel
theorem d156_1 : decode (hs_code 156) 1 = .ok (.ifCond .lt 8, 3) := by decide +kernel
theorem d156_4 : decode (hs_code 156) 4 = .ok (.iload_n 1, 1) := by decide +kernel
theorem d156_5 : decode (hs_code 156) 5 = .ok (.iconst 3, 1) := by decide +kernel
theorem d156_6 : decode (hs_code 156) 6 = .ok (.if_icmp .le 9, 3) := by decide +kernel
theorem d156_9 : decode (hs_code 156) 9 = .ok (.aload_n 0, 1) := by decide +kernel
theorem d156_10 : decode (hs_code 156) 10 = .ok (.iconst 5, 1) := by decide +kernel
theorem d156_11 : decode (hs_code 156) 11 = .ok (.invokevirtual 120, 3) := by decide +kernel
theorem d156_14 : decode (hs_code 156) 14 = .ok (.ireturn, 1) := by decide +kernel
theorem d156_15 : decode (hs_code 156) 15 = .ok (.aload_n 0, 1) := by decide +kernel
theorem d156_16 : decode (hs_code 156) 16 = .ok (.getfield 51, 3) := by decide +kernel
theorem d156_19 : decode (hs_code 156) 19 = .ok (.aload_n 0, 1) := by decide +kernel
theorem d156_20 : decode (hs_code 156) 20 = .ok (.getfield 60, 3) := by decide +kernel
theorem d156_23 : decode (hs_code 156) 23 = .ok (.iload_n 1, 1) := by decide +kernel
theorem d156_24 : decode (hs_code 156) 24 = .ok (.invokevirtual 347, 3) := by decide +kernel
theorem d156_27 : decode (hs_code 156) 27 = .ok (.aload_n 0, 1) := by decide +kernel
theorem d156_28 : decode (hs_code 156) 28 = .ok (.aload_n 0, 1) := by decide +kernel
theorem d156_29 : decode (hs_code 156) 29 = .ok (.getfield 51, 3) := by decide +kernel
theorem d156_32 : decode (hs_code 156) 32 = .ok (.invokevirtual 351, 3) := by decide +kernel
theorem d156_35 : decode (hs_code 156) 35 = .ok (.invokevirtual 173, 3) := by decide +kernel
theorem d156_38 : decode (hs_code 156) 38 = .ok (.ireturn, 1) := by decide +kernel
theorem d163_0 : decode (hs_code 163) 0 = .ok (.iload_n 1, 1) := by decide +kernel
theorem d163_1 : decode (hs_code 163) 1 = .ok (.iconst 1, 1) := by decide +kernel
theorem d163_2 : decode (hs_code 163) 2 = .ok (.if_icmp .lt 8, 3) := by decide +kernel
theorem d163_5 : decode (hs_code 163) 5 = .ok (.iload_n 1, 1) := by decide +kernel
theorem d163_6 : decode (hs_code 163) 6 = .ok (.iconst 3, 1) := by decide +kernel
theorem d163_7 : decode (hs_code 163) 7 = .ok (.if_icmp .le 9, 3) := by decide +kernel
theorem d163_10 : decode (hs_code 163) 10 = .ok (.aload_n 0, 1) := by decide +kernel
theorem d163_11 : decode (hs_code 163) 11 = .ok (.iconst 5, 1) := by decide +kernel
theorem d163_12 : decode (hs_code 163) 12 = .ok (.invokevirtual 120, 3) := by decide +kernel
theorem d163_15 : decode (hs_code 163) 15 = .ok (.ireturn, 1) := by decide +kernel
theorem d163_16 : decode (hs_code 163) 16 = .ok (.aload_n 0, 1) := by decide +kernel
theorem d163_17 : decode (hs_code 163) 17 = .ok (.getfield 51, 3) := by decide +kernel
theorem d163_20 : decode (hs_code 163) 20 = .ok (.aload_n 0, 1) := by decide +kernel
theorem d163_21 : decode (hs_code 163) 21 = .ok (.getfield 60, 3) := by decide +kernel
theorem d163_24 : decode (hs_code 163) 24 = .ok (.iload_n 1, 1) := by decide +kernel
theorem d163_25 : decode (hs_code 163) 25 = .ok (.invokevirtual 347, 3) := by decide +kernel
theorem d163_28 : decode (hs_code 163) 28 = .ok (.aload_n 0, 1) := by decide +kernel
theorem d163_29 : decode (hs_code 163) 29 = .ok (.getfield 51, 3) := by decide +kernel
theorem d163_32 : decode (hs_code 163) 32 = .ok (.invokevirtual 354, 3) := by decide +kernel
theorem d163_35 : decode (hs_code 163) 35 = .ok (.istore_n 2, 1) := by decide +kernel
theorem d163_36 : decode (hs_code 163) 36 = .ok (.iload_n 2, 1) := by decide +kernel
theorem d163_37 : decode (hs_code 163) 37 = .ok (.ifCond .ge 12, 3) := by decide +kernel
theorem d163_40 : decode (hs_code 163) 40 = .ok (.aload_n 0, 1) := by decide +kernel
theorem d163_41 : decode (hs_code 163) 41 = .ok (.bipush 8, 2) := by decide +kernel
theorem d163_43 : decode (hs_code 163) 43 = .ok (.invokevirtual 120, 3) := by decide +kernel
theorem d163_46 : decode (hs_code 163) 46 = .ok (.goto 8, 3) := by decide +kernel
theorem d163_49 : decode (hs_code 163) 49 = .ok (.aload_n 0, 1) := by decide +kernel
theorem d163_50 : decode (hs_code 163) 50 = .ok (.iload_n 2, 1) := by decide +kernel
theorem d163_51 : decode (hs_code 163) 51 = .ok (.invokevirtual 173, 3) := by decide +kernel
theorem d163_54 : decode (hs_code 163) 54 = .ok (.ireturn, 1) := by decide +kernel
theorem d165_0 : decode (hs_code 165) 0 = .ok (.aload_n 0, 1) := by decide +kernel
theorem d165_1 : decode (hs_code 165) 1 = .ok (.iload_n 1, 1) := by decide +kernel
theorem d165_2 : decode (hs_code 165) 2 = .ok (.invokevirtual 232, 3) := by decide +kernel
theorem d165_5 : decode (hs_code 165) 5 = .ok (.ifCond .ne 9, 3) := by decide +kernel
theorem d165_8 : decode (hs_code 165) 8 = .ok (.aload_n 0, 1) := by decide +kernel
theorem d165_9 : decode (hs_code 165) 9 = .ok (.iconst 2, 1) := by decide +kernel
theorem d165_10 : decode (hs_code 165) 10 = .ok (.invokevirtual 101, 3) := by decide +kernel
theorem d165_13 : decode (hs_code 165) 13 = .ok (.ireturn, 1) := by decide +kernel
theorem d165_14 : decode (hs_code 165) 14 = .ok (.iload_n 2, 1) := by decide +kernel
theorem d165_15 : decode (hs_code 165) 15 = .ok (.ifCond .lt 9, 3) := by decide +kernel
theorem d165_18 : decode (hs_code 165) 18 = .ok (.iload_n 2, 1) := by decide +kernel
theorem d165_19 : decode (hs_code 165) 19 = .ok (.bipush 8, 2) := by decide +kernel
theorem d165_21 : decode (hs_code 165) 21 = .ok (.if_icmp .le 9, 3) := by decide +kernel
theorem d165_24 : decode (hs_code 165) 24 = .ok (.aload_n 0, 1) := by decide +kernel
theorem d165_25 : decode (hs_code 165) 25 = .ok (.iconst 5, 1) := by decide +kernel
theorem d165_26 : decode (hs_code 165) 26 = .ok (.invokevirtual 101, 3) := by decide +kernel
theorem d165_29 : decode (hs_code 165) 29 = .ok (.ireturn, 1) := by decide +kernel
theorem d165_30 : decode (hs_code 165) 30 = .ok (.aload_n 0, 1) := by decide +kernel
theorem d165_31 : decode (hs_code 165) 31 = .ok (.getfield 60, 3) := by decide +kernel
theorem d165_34 : decode (hs_code 165) 34 = .ok (.iload_n 1, 1) := by decide +kernel
theorem d165_35 : decode (hs_code 165) 35 = .ok (.invokevirtual 357, 3) := by decide +kernel
theorem d165_38 : decode (hs_code 165) 38 = .ok (.istore_n 3, 1) := by decide +kernel
theorem d165_39 : decode (hs_code 165) 39 = .ok (.lconst 1, 1) := by decide +kernel
theorem d165_40 : decode (hs_code 165) 40 = .ok (.lstore 4, 2) := by decide +kernel
theorem d165_42 : decode (hs_code 165) 42 = .ok (.lconst 0, 1) := by decide +kernel
theorem d165_43 : decode (hs_code 165) 43 = .ok (.lstore 6, 2) := by decide +kernel
theorem d165_45 : decode (hs_code 165) 45 = .ok (.iconst 0, 1) := by decide +kernel
theorem d165_46 : decode (hs_code 165) 46 = .ok (.istore 8, 2) := by decide +kernel
theorem d165_48 : decode (hs_code 165) 48 = .ok (.iload 8, 2) := by decide +kernel
theorem d165_50 : decode (hs_code 165) 50 = .ok (.iload_n 2, 1) := by decide +kernel
theorem d165_51 : decode (hs_code 165) 51 = .ok (.if_icmp .gt 69, 3) := by decide +kernel
theorem d165_54 : decode (hs_code 165) 54 = .ok (.iload 8, 2) := by decide +kernel
theorem d165_56 : decode (hs_code 165) 56 = .ok (.iload_n 3, 1) := by decide +kernel
theorem d165_57 : decode (hs_code 165) 57 = .ok (.if_icmp .gt 63, 3) := by decide +kernel
theorem d165_60 : decode (hs_code 165) 60 = .ok (.lload 6, 2) := by decide +kernel
theorem d165_62 : decode (hs_code 165) 62 = .ok (.lload 4, 2) := by decide +kernel
theorem d165_64 : decode (hs_code 165) 64 = .ok (.aload_n 0, 1) := by decide +kernel
theorem d165_65 : decode (hs_code 165) 65 = .ok (.getfield 60, 3) := by decide +kernel
theorem d165_68 : decode (hs_code 165) 68 = .ok (.getfield 274, 3) := by decide +kernel
theorem d165_71 : decode (hs_code 165) 71 = .ok (.iload 8, 2) := by decide +kernel
theorem d165_73 : decode (hs_code 165) 73 = .ok (.invokestatic 360, 3) := by decide +kernel
theorem d165_76 : decode (hs_code 165) 76 = .ok (.lmul, 1) := by decide +kernel
theorem d165_77 : decode (hs_code 165) 77 = .ok (.bipush 16, 2) := by decide +kernel
theorem d165_79 : decode (hs_code 165) 79 = .ok (.aload_n 0, 1) := by decide +kernel
theorem d165_80 : decode (hs_code 165) 80 = .ok (.getfield 60, 3) := by decide +kernel
theorem d165_83 : decode (hs_code 165) 83 = .ok (.getfield 274, 3) := by decide +kernel
theorem d165_86 : decode (hs_code 165) 86 = .ok (.isub, 1) := by decide +kernel
theorem d165_87 : decode (hs_code 165) 87 = .ok (.iload_n 3, 1) := by decide +kernel
theorem d165_88 : decode (hs_code 165) 88 = .ok (.iload 8, 2) := by decide +kernel
theorem d165_90 : decode (hs_code 165) 90 = .ok (.isub, 1) := by decide +kernel
theorem d165_91 : decode (hs_code 165) 91 = .ok (.invokestatic 360, 3) := by decide +kernel
theorem d165_94 : decode (hs_code 165) 94 = .ok (.lmul, 1) := by decide +kernel
theorem d165_95 : decode (hs_code 165) 95 = .ok (.ladd, 1) := by decide +kernel
theorem d165_96 : decode (hs_code 165) 96 = .ok (.lstore 6, 2) := by decide +kernel
theorem d165_98 : decode (hs_code 165) 98 = .ok (.lload 4, 2) := by decide +kernel
theorem d165_100 : decode (hs_code 165) 100 = .ok (.iload_n 3, 1) := by decide +kernel
theorem d165_101 : decode (hs_code 165) 101 = .ok (.iload 8, 2) := by decide +kernel
theorem d165_103 : decode (hs_code 165) 103 = .ok (.isub, 1) := by decide +kernel
theorem d165_104 : decode (hs_code 165) 104 = .ok (.i2l, 1) := by decide +kernel
theorem d165_105 : decode (hs_code 165) 105 = .ok (.lmul, 1) := by decide +kernel
theorem d165_106 : decode (hs_code 165) 106 = .ok (.iload 8, 2) := by decide +kernel
theorem d165_108 : decode (hs_code 165) 108 = .ok (.iconst 1, 1) := by decide +kernel
theorem d165_109 : decode (hs_code 165) 109 = .ok (.iadd, 1) := by decide +kernel
theorem d165_110 : decode (hs_code 165) 110 = .ok (.i2l, 1) := by decide +kernel
theorem d165_111 : decode (hs_code 165) 111 = .ok (.ldiv, 1) := by decide +kernel
theorem d165_112 : decode (hs_code 165) 112 = .ok (.lstore 4, 2) := by decide +kernel
theorem d165_114 : decode (hs_code 165) 114 = .ok (.iinc 8 1, 3) := by decide +kernel
theorem d165_117 : decode (hs_code 165) 117 = .ok (.goto (-69), 3) := by decide +kernel
theorem d165_120 : decode (hs_code 165) 120 = .ok (.aload_n 0, 1) := by decide +kernel
theorem d165_121 : decode (hs_code 165) 121 = .ok (.lload 6, 2) := by decide +kernel
theorem d165_123 : decode (hs_code 165) 123 = .ok (.bipush 16, 2) := by decide +kernel
theorem d165_125 : decode (hs_code 165) 125 = .ok (.iload_n 3, 1) := by decide +kernel
theorem d165_126 : decode (hs_code 165) 126 = .ok (.invokestatic 360, 3) := by decide +kernel
theorem d165_129 : decode (hs_code 165) 129 = .ok (.invokevirtual 364, 3) := by decide +kernel
theorem d165_132 : decode (hs_code 165) 132 = .ok (.ireturn, 1) := by decide +kernel
theorem d167_0 : decode (hs_code 167) 0 = .ok (.lconst 1, 1) := by decide +kernel
theorem d167_1 : decode (hs_code 167) 1 = .ok (.lstore_n 2, 1) := by decide +kernel
theorem d167_2 : decode (hs_code 167) 2 = .ok (.iconst 0, 1) := by decide +kernel
theorem d167_3 : decode (hs_code 167) 3 = .ok (.istore 4, 2) := by decide +kernel
theorem d167_5 : decode (hs_code 167) 5 = .ok (.iload 4, 2) := by decide +kernel
theorem d167_7 : decode (hs_code 167) 7 = .ok (.iload_n 1, 1) := by decide +kernel
theorem d167_8 : decode (hs_code 167) 8 = .ok (.if_icmp .ge 14, 3) := by decide +kernel
theorem d167_11 : decode (hs_code 167) 11 = .ok (.lload_n 2, 1) := by decide +kernel
theorem d167_12 : decode (hs_code 167) 12 = .ok (.iload_n 0, 1) := by decide +kernel
theorem d167_13 : decode (hs_code 167) 13 = .ok (.i2l, 1) := by decide +kernel
theorem d167_14 : decode (hs_code 167) 14 = .ok (.lmul, 1) := by decide +kernel
theorem d167_15 : decode (hs_code 167) 15 = .ok (.lstore_n 2, 1) := by decide +kernel
theorem d167_16 : decode (hs_code 167) 16 = .ok (.iinc 4 1, 3) := by decide +kernel
theorem d167_19 : decode (hs_code 167) 19 = .ok (.goto (-14), 3) := by decide +kernel
theorem d167_22 : decode (hs_code 167) 22 = .ok (.lload_n 2, 1) := by decide +kernel
theorem d167_23 : decode (hs_code 167) 23 = .ok (.lreturn, 1) := by decide +kernel
theorem d168_0 : decode (hs_code 168) 0 = .ok (.lload_n 1, 1) := by decide +kernel
theorem d168_1 : decode (hs_code 168) 1 = .ok (.lload_n 3, 1) := by decide +kernel
theorem d168_2 : decode (hs_code 168) 2 = .ok (.invokestatic 395, 3) := by decide +kernel
theorem d168_5 : decode (hs_code 168) 5 = .ok (.lstore 5, 2) := by decide +kernel
theorem d168_7 : decode (hs_code 168) 7 = .ok (.lload 5, 2) := by decide +kernel
theorem d168_9 : decode (hs_code 168) 9 = .ok (.lconst 0, 1) := by decide +kernel
theorem d168_10 : decode (hs_code 168) 10 = .ok (.lcmp, 1) := by decide +kernel
theorem d168_11 : decode (hs_code 168) 11 = .ok (.ifCond .le 19, 3) := by decide +kernel
theorem d168_14 : decode (hs_code 168) 14 = .ok (.aload_n 0, 1) := by decide +kernel
theorem d168_15 : decode (hs_code 168) 15 = .ok (.lload_n 1, 1) := by decide +kernel
theorem d168_16 : decode (hs_code 168) 16 = .ok (.lload 5, 2) := by decide +kernel
theorem d168_18 : decode (hs_code 168) 18 = .ok (.ldiv, 1) := by decide +kernel
theorem d168_19 : decode (hs_code 168) 19 = .ok (.putfield 94, 3) := by decide +kernel
theorem d168_22 : decode (hs_code 168) 22 = .ok (.aload_n 0, 1) := by decide +kernel
theorem d168_23 : decode (hs_code 168) 23 = .ok (.lload_n 3, 1) := by decide +kernel
theorem d168_24 : decode (hs_code 168) 24 = .ok (.lload 5, 2) := by decide +kernel
theorem d168_26 : decode (hs_code 168) 26 = .ok (.ldiv, 1) := by decide +kernel
theorem d168_27 : decode (hs_code 168) 27 = .ok (.putfield 85, 3) := by decide +kernel
theorem d168_30 : decode (hs_code 168) 30 = .ok (.aload_n 0, 1) := by decide +kernel
theorem d168_31 : decode (hs_code 168) 31 = .ok (.invokevirtual 108, 3) := by decide +kernel
theorem d168_34 : decode (hs_code 168) 34 = .ok (.ireturn, 1) := by decide +kernel
theorem d169_0 : decode (hs_code 169) 0 = .ok (.lload_n 0, 1) := by decide +kernel
theorem d169_1 : decode (hs_code 169) 1 = .ok (.lstore 4, 2) := by decide +kernel
theorem d169_3 : decode (hs_code 169) 3 = .ok (.lload_n 2, 1) := by decide +kernel
theorem d169_4 : decode (hs_code 169) 4 = .ok (.lstore 6, 2) := by decide +kernel
theorem d169_6 : decode (hs_code 169) 6 = .ok (.iconst 0, 1) := by decide +kernel
theorem d169_7 : decode (hs_code 169) 7 = .ok (.istore 8, 2) := by decide +kernel
theorem d169_9 : decode (hs_code 169) 9 = .ok (.iload 8, 2) := by decide +kernel
theorem d169_11 : decode (hs_code 169) 11 = .ok (.sipush 200, 3) := by decide +kernel
theorem d169_14 : decode (hs_code 169) 14 = .ok (.if_icmp .ge 31, 3) := by decide +kernel
theorem d169_17 : decode (hs_code 169) 17 = .ok (.lload 6, 2) := by decide +kernel
theorem d169_19 : decode (hs_code 169) 19 = .ok (.lconst 0, 1) := by decide +kernel
theorem d169_20 : decode (hs_code 169) 20 = .ok (.lcmp, 1) := by decide +kernel
theorem d169_21 : decode (hs_code 169) 21 = .ok (.ifCond .eq 24, 3) := by decide +kernel
theorem d169_24 : decode (hs_code 169) 24 = .ok (.lload 4, 2) := by decide +kernel
theorem d169_26 : decode (hs_code 169) 26 = .ok (.lload 6, 2) := by decide +kernel
theorem d169_28 : decode (hs_code 169) 28 = .ok (.lrem, 1) := by decide +kernel
theorem d169_29 : decode (hs_code 169) 29 = .ok (.lstore 9, 2) := by decide +kernel
theorem d169_31 : decode (hs_code 169) 31 = .ok (.lload 6, 2) := by decide +kernel
theorem d169_33 : decode (hs_code 169) 33 = .ok (.lstore 4, 2) := by decide +kernel
theorem d169_35 : decode (hs_code 169) 35 = .ok (.lload 9, 2) := by decide +kernel
theorem d169_37 : decode (hs_code 169) 37 = .ok (.lstore 6, 2) := by decide +kernel
theorem d169_39 : decode (hs_code 169) 39 = .ok (.iinc 8 1, 3) := by decide +kernel
theorem d169_42 : decode (hs_code 169) 42 = .ok (.goto (-33), 3) := by decide +kernel
theorem d169_45 : decode (hs_code 169) 45 = .ok (.lload 4, 2) := by decide +kernel
theorem d169_47 : decode (hs_code 169) 47 = .ok (.lreturn, 1) := by decide +kernel
theorem d170_0 : decode (hs_code 170) 0 = .ok (.aload_n 0, 1) := by decide +kernel
theorem d170_1 : decode (hs_code 170) 1 = .ok (.iload_n 1, 1) := by decide +kernel
theorem d170_2 : decode (hs_code 170) 2 = .ok (.invokevirtual 214, 3) := by decide +kernel
theorem d170_5 : decode (hs_code 170) 5 = .ok (.ifCond .ne 9, 3) := by decide +kernel
theorem d170_8 : decode (hs_code 170) 8 = .ok (.aload_n 0, 1) := by decide +kernel
theorem d170_9 : decode (hs_code 170) 9 = .ok (.iconst 2, 1) := by decide +kernel
theorem d170_10 : decode (hs_code 170) 10 = .ok (.invokevirtual 101, 3) := by decide +kernel
theorem d170_13 : decode (hs_code 170) 13 = .ok (.ireturn, 1) := by decide +kernel
theorem d170_14 : decode (hs_code 170) 14 = .ok (.aload_n 0, 1) := by decide +kernel
theorem d170_15 : decode (hs_code 170) 15 = .ok (.aload_n 0, 1) := by decide +kernel
theorem d170_16 : decode (hs_code 170) 16 = .ok (.getfield 60, 3) := by decide +kernel
theorem d170_19 : decode (hs_code 170) 19 = .ok (.getfield 217, 3) := by decide +kernel
theorem d170_22 : decode (hs_code 170) 22 = .ok (.iload_n 1, 1) := by decide +kernel
theorem d170_23 : decode (hs_code 170) 23 = .ok (.iaload, 1) := by decide +kernel
theorem d170_24 : decode (hs_code 170) 24 = .ok (.i2l, 1) := by decide +kernel
theorem d170_25 : decode (hs_code 170) 25 = .ok (.aload_n 0, 1) := by decide +kernel
theorem d170_26 : decode (hs_code 170) 26 = .ok (.getfield 60, 3) := by decide +kernel
theorem d170_29 : decode (hs_code 170) 29 = .ok (.invokevirtual 368, 3) := by decide +kernel
theorem d170_32 : decode (hs_code 170) 32 = .ok (.i2l, 1) := by decide +kernel
theorem d170_33 : decode (hs_code 170) 33 = .ok (.invokevirtual 364, 3) := by decide +kernel
theorem d170_36 : decode (hs_code 170) 36 = .ok (.ireturn, 1) := by decide +kernel
theorem d171_0 : decode (hs_code 171) 0 = .ok (.iload_n 1, 1) := by decide +kernel
theorem d171_1 : decode (hs_code 171) 1 = .ok (.ifCond .lt 10, 3) := by decide +kernel
theorem d171_4 : decode (hs_code 171) 4 = .ok (.iload_n 1, 1) := by decide +kernel
theorem d171_5 : decode (hs_code 171) 5 = .ok (.sipush 9999, 3) := by decide +kernel
theorem d171_8 : decode (hs_code 171) 8 = .ok (.if_icmp .le 9, 3) := by decide +kernel
theorem d171_11 : decode (hs_code 171) 11 = .ok (.aload_n 0, 1) := by decide +kernel
theorem d171_12 : decode (hs_code 171) 12 = .ok (.iconst 5, 1) := by decide +kernel
theorem d171_13 : decode (hs_code 171) 13 = .ok (.invokevirtual 120, 3) := by decide +kernel
theorem d171_16 : decode (hs_code 171) 16 = .ok (.ireturn, 1) := by decide +kernel
theorem d171_17 : decode (hs_code 171) 17 = .ok (.aload_n 0, 1) := by decide +kernel
theorem d171_18 : decode (hs_code 171) 18 = .ok (.getfield 68, 3) := by decide +kernel
theorem d171_21 : decode (hs_code 171) 21 = .ok (.getfield 371, 3) := by decide +kernel
theorem d171_24 : decode (hs_code 171) 24 = .ok (.ifCond .ne 10, 3) := by decide +kernel
theorem d171_27 : decode (hs_code 171) 27 = .ok (.aload_n 0, 1) := by decide +kernel
theorem d171_28 : decode (hs_code 171) 28 = .ok (.bipush 8, 2) := by decide +kernel
theorem d171_30 : decode (hs_code 171) 30 = .ok (.invokevirtual 120, 3) := by decide +kernel
theorem d171_33 : decode (hs_code 171) 33 = .ok (.ireturn, 1) := by decide +kernel
theorem d171_34 : decode (hs_code 171) 34 = .ok (.aload_n 0, 1) := by decide +kernel
theorem d171_35 : decode (hs_code 171) 35 = .ok (.getfield 78, 3) := by decide +kernel
theorem d171_38 : decode (hs_code 171) 38 = .ok (.aload_n 0, 1) := by decide +kernel
theorem d171_39 : decode (hs_code 171) 39 = .ok (.getfield 68, 3) := by decide +kernel
theorem d171_42 : decode (hs_code 171) 42 = .ok (.aload_n 0, 1) := by decide +kernel
theorem d171_43 : decode (hs_code 171) 43 = .ok (.getfield 60, 3) := by decide +kernel
theorem d171_46 : decode (hs_code 171) 46 = .ok (.iload_n 1, 1) := by decide +kernel
theorem d171_47 : decode (hs_code 171) 47 = .ok (.invokevirtual 374, 3) := by decide +kernel
theorem d171_50 : decode (hs_code 171) 50 = .ok (.aload_n 0, 1) := by decide +kernel
theorem d171_51 : decode (hs_code 171) 51 = .ok (.iconst 1, 1) := by decide +kernel
theorem d171_52 : decode (hs_code 171) 52 = .ok (.putfield 378, 3) := by decide +kernel
theorem d171_55 : decode (hs_code 171) 55 = .ok (.aload_n 0, 1) := by decide +kernel
theorem d171_56 : decode (hs_code 171) 56 = .ok (.aload_n 0, 1) := by decide +kernel
theorem d171_57 : decode (hs_code 171) 57 = .ok (.getfield 78, 3) := by decide +kernel
theorem d171_60 : decode (hs_code 171) 60 = .ok (.getfield 381, 3) := by decide +kernel
theorem d171_63 : decode (hs_code 171) 63 = .ok (.invokevirtual 173, 3) := by decide +kernel
theorem d171_66 : decode (hs_code 171) 66 = .ok (.ireturn, 1) := by decide +kernel
theorem d182_0 : decode (hs_code 182) 0 = .ok (.iload_n 1, 1) := by decide +kernel
theorem d182_1 : decode (hs_code 182) 1 = .ok (.ifCond .lt 8, 3) := by decide +kernel
theorem d182_4 : decode (hs_code 182) 4 = .ok (.iload_n 1, 1) := by decide +kernel
theorem d182_5 : decode (hs_code 182) 5 = .ok (.iconst 4, 1) := by decide +kernel
theorem d182_6 : decode (hs_code 182) 6 = .ok (.if_icmp .le 9, 3) := by decide +kernel
theorem d182_9 : decode (hs_code 182) 9 = .ok (.aload_n 0, 1) := by decide +kernel
theorem d182_10 : decode (hs_code 182) 10 = .ok (.iconst 5, 1) := by decide +kernel
theorem d182_11 : decode (hs_code 182) 11 = .ok (.invokevirtual 120, 3) := by decide +kernel
theorem d182_14 : decode (hs_code 182) 14 = .ok (.ireturn, 1) := by decide +kernel
theorem d182_15 : decode (hs_code 182) 15 = .ok (.aload_n 0, 1) := by decide +kernel
theorem d182_16 : decode (hs_code 182) 16 = .ok (.getfield 378, 3) := by decide +kernel
theorem d182_19 : decode (hs_code 182) 19 = .ok (.ifCond .eq 18, 3) := by decide +kernel
theorem d182_22 : decode (hs_code 182) 22 = .ok (.aload_n 0, 1) := by decide +kernel
theorem d182_23 : decode (hs_code 182) 23 = .ok (.aload_n 0, 1) := by decide +kernel
theorem d182_24 : decode (hs_code 182) 24 = .ok (.getfield 78, 3) := by decide +kernel
theorem d182_27 : decode (hs_code 182) 27 = .ok (.iload_n 1, 1) := by decide +kernel
theorem d182_28 : decode (hs_code 182) 28 = .ok (.invokevirtual 382, 3) := by decide +kernel
theorem d182_31 : decode (hs_code 182) 31 = .ok (.invokevirtual 173, 3) := by decide +kernel
theorem d182_34 : decode (hs_code 182) 34 = .ok (.goto 9, 3) := by decide +kernel
theorem d182_37 : decode (hs_code 182) 37 = .ok (.aload_n 0, 1) := by decide +kernel
theorem d182_38 : decode (hs_code 182) 38 = .ok (.bipush 8, 2) := by decide +kernel
theorem d182_40 : decode (hs_code 182) 40 = .ok (.invokevirtual 120, 3) := by decide +kernel
theorem d182_43 : decode (hs_code 182) 43 = .ok (.ireturn, 1) := by decide +kernel
theorem d184_0 : decode (hs_code 184) 0 = .ok (.iload_n 1, 1) := by decide +kernel
theorem d184_1 : decode (hs_code 184) 1 = .ok (.ifCond .lt 25, 3) := by decide +kernel
theorem d184_4 : decode (hs_code 184) 4 = .ok (.iload_n 2, 1) := by decide +kernel
theorem d184_5 : decode (hs_code 184) 5 = .ok (.iconst 1, 1) := by decide +kernel
theorem d184_6 : decode (hs_code 184) 6 = .ok (.if_icmp .lt 20, 3) := by decide +kernel
theorem d184_9 : decode (hs_code 184) 9 = .ok (.iload_n 2, 1) := by decide +kernel
theorem d184_10 : decode (hs_code 184) 10 = .ok (.bipush 20, 2) := by decide +kernel
theorem d184_12 : decode (hs_code 184) 12 = .ok (.if_icmp .gt 14, 3) := by decide +kernel
theorem d184_15 : decode (hs_code 184) 15 = .ok (.iload_n 1, 1) := by decide +kernel
theorem d184_16 : decode (hs_code 184) 16 = .ok (.sipush 9999, 3) := by decide +kernel
theorem d184_19 : decode (hs_code 184) 19 = .ok (.iload_n 2, 1) := by decide +kernel
theorem d184_20 : decode (hs_code 184) 20 = .ok (.iconst 1, 1) := by decide +kernel
theorem d184_21 : decode (hs_code 184) 21 = .ok (.isub, 1) := by decide +kernel
theorem d184_22 : decode (hs_code 184) 22 = .ok (.isub, 1) := by decide +kernel
theorem d184_23 : decode (hs_code 184) 23 = .ok (.if_icmp .le 9, 3) := by decide +kernel
theorem d184_26 : decode (hs_code 184) 26 = .ok (.aload_n 0, 1) := by decide +kernel
theorem d184_27 : decode (hs_code 184) 27 = .ok (.iconst 5, 1) := by decide +kernel
theorem d184_28 : decode (hs_code 184) 28 = .ok (.invokevirtual 101, 3) := by decide +kernel
theorem d184_31 : decode (hs_code 184) 31 = .ok (.ireturn, 1) := by decide +kernel
theorem d184_32 : decode (hs_code 184) 32 = .ok (.aload_n 0, 1) := by decide +kernel
theorem d184_33 : decode (hs_code 184) 33 = .ok (.getfield 68, 3) := by decide +kernel
theorem d184_36 : decode (hs_code 184) 36 = .ok (.getfield 371, 3) := by decide +kernel
theorem d184_39 : decode (hs_code 184) 39 = .ok (.ifCond .ne 10, 3) := by decide +kernel
theorem d184_42 : decode (hs_code 184) 42 = .ok (.aload_n 0, 1) := by decide +kernel
theorem d184_43 : decode (hs_code 184) 43 = .ok (.bipush 8, 2) := by decide +kernel
theorem d184_45 : decode (hs_code 184) 45 = .ok (.invokevirtual 101, 3) := by decide +kernel
theorem d184_48 : decode (hs_code 184) 48 = .ok (.ireturn, 1) := by decide +kernel
theorem d184_49 : decode (hs_code 184) 49 = .ok (.lconst 0, 1) := by decide +kernel
theorem d184_50 : decode (hs_code 184) 50 = .ok (.lstore_n 3, 1) := by decide +kernel
theorem d184_51 : decode (hs_code 184) 51 = .ok (.iconst 0, 1) := by decide +kernel
theorem d184_52 : decode (hs_code 184) 52 = .ok (.istore 5, 2) := by decide +kernel
theorem d184_54 : decode (hs_code 184) 54 = .ok (.iload 5, 2) := by decide +kernel
theorem d184_56 : decode (hs_code 184) 56 = .ok (.iload_n 2, 1) := by decide +kernel
theorem d184_57 : decode (hs_code 184) 57 = .ok (.if_icmp .ge 53, 3) := by decide +kernel
theorem d184_60 : decode (hs_code 184) 60 = .ok (.aload_n 0, 1) := by decide +kernel
theorem d184_61 : decode (hs_code 184) 61 = .ok (.getfield 64, 3) := by decide +kernel
theorem d184_64 : decode (hs_code 184) 64 = .ok (.aload_n 0, 1) := by decide +kernel
theorem d184_65 : decode (hs_code 184) 65 = .ok (.getfield 60, 3) := by decide +kernel
theorem d184_68 : decode (hs_code 184) 68 = .ok (.invokevirtual 385, 3) := by decide +kernel
theorem d184_71 : decode (hs_code 184) 71 = .ok (.aload_n 0, 1) := by decide +kernel
theorem d184_72 : decode (hs_code 184) 72 = .ok (.getfield 82, 3) := by decide +kernel
theorem d184_75 : decode (hs_code 184) 75 = .ok (.aload_n 0, 1) := by decide +kernel
theorem d184_76 : decode (hs_code 184) 76 = .ok (.getfield 68, 3) := by decide +kernel
theorem d184_79 : decode (hs_code 184) 79 = .ok (.aload_n 0, 1) := by decide +kernel
theorem d184_80 : decode (hs_code 184) 80 = .ok (.getfield 64, 3) := by decide +kernel
theorem d184_83 : decode (hs_code 184) 83 = .ok (.iload_n 1, 1) := by decide +kernel
theorem d184_84 : decode (hs_code 184) 84 = .ok (.iload 5, 2) := by decide +kernel
theorem d184_86 : decode (hs_code 184) 86 = .ok (.iadd, 1) := by decide +kernel
theorem d184_87 : decode (hs_code 184) 87 = .ok (.invokevirtual 374, 3) := by decide +kernel
theorem d184_90 : decode (hs_code 184) 90 = .ok (.lload_n 3, 1) := by decide +kernel
theorem d184_91 : decode (hs_code 184) 91 = .ok (.aload_n 0, 1) := by decide +kernel
theorem d184_92 : decode (hs_code 184) 92 = .ok (.getfield 64, 3) := by decide +kernel
theorem d184_95 : decode (hs_code 184) 95 = .ok (.getfield 164, 3) := by decide +kernel
theorem d184_98 : decode (hs_code 184) 98 = .ok (.invokevirtual 250, 3) := by decide +kernel
theorem d184_101 : decode (hs_code 184) 101 = .ok (.i2l, 1) := by decide +kernel
theorem d184_102 : decode (hs_code 184) 102 = .ok (.ladd, 1) := by decide +kernel
theorem d184_103 : decode (hs_code 184) 103 = .ok (.lstore_n 3, 1) := by decide +kernel
theorem d184_104 : decode (hs_code 184) 104 = .ok (.iinc 5 1, 3) := by decide +kernel
theorem d184_107 : decode (hs_code 184) 107 = .ok (.goto (-53), 3) := by decide +kernel
theorem d184_110 : decode (hs_code 184) 110 = .ok (.aload_n 0, 1) := by decide +kernel
theorem d184_111 : decode (hs_code 184) 111 = .ok (.lload_n 3, 1) := by decide +kernel
theorem d184_112 : decode (hs_code 184) 112 = .ok (.iload_n 2, 1) := by decide +kernel
theorem d184_113 : decode (hs_code 184) 113 = .ok (.i2l, 1) := by decide +kernel
theorem d184_114 : decode (hs_code 184) 114 = .ok (.invokevirtual 364, 3) := by decide +kernel
theorem d184_117 : decode (hs_code 184) 117 = .ok (.ireturn, 1) := by decide +kernel
theorem d188_0 : decode (hs_code 188) 0 = .ok (.aload_n 0, 1) := by decide +kernel
theorem d188_1 : decode (hs_code 188) 1 = .ok (.getfield 389, 3) := by decide +kernel
theorem d188_4 : decode (hs_code 188) 4 = .ok (.iconst 3, 1) := by decide +kernel
theorem d188_5 : decode (hs_code 188) 5 = .ok (.if_icmp .lt 10, 3) := by decide +kernel
theorem d188_8 : decode (hs_code 188) 8 = .ok (.aload_n 0, 1) := by decide +kernel
theorem d188_9 : decode (hs_code 188) 9 = .ok (.bipush 7, 2) := by decide +kernel
theorem d188_11 : decode (hs_code 188) 11 = .ok (.invokevirtual 120, 3) := by decide +kernel
theorem d188_14 : decode (hs_code 188) 14 = .ok (.ireturn, 1) := by decide +kernel
theorem d188_15 : decode (hs_code 188) 15 = .ok (.aload_n 0, 1) := by decide +kernel
theorem d188_16 : decode (hs_code 188) 16 = .ok (.getfield 38, 3) := by decide +kernel
theorem d188_19 : decode (hs_code 188) 19 = .ok (.aload_n 0, 1) := by decide +kernel
theorem d188_20 : decode (hs_code 188) 20 = .ok (.getfield 389, 3) := by decide +kernel
theorem d188_23 : decode (hs_code 188) 23 = .ok (.aaload, 1) := by decide +kernel
theorem d188_24 : decode (hs_code 188) 24 = .ok (.aload_n 0, 1) := by decide +kernel
theorem d188_25 : decode (hs_code 188) 25 = .ok (.getfield 60, 3) := by decide +kernel
theorem d188_28 : decode (hs_code 188) 28 = .ok (.invokevirtual 385, 3) := by decide +kernel
theorem d188_31 : decode (hs_code 188) 31 = .ok (.aload_n 0, 1) := by decide +kernel
theorem d188_32 : decode (hs_code 188) 32 = .ok (.getfield 44, 3) := by decide +kernel
theorem d188_35 : decode (hs_code 188) 35 = .ok (.aload_n 0, 1) := by decide +kernel
theorem d188_36 : decode (hs_code 188) 36 = .ok (.getfield 389, 3) := by decide +kernel
theorem d188_39 : decode (hs_code 188) 39 = .ok (.aaload, 1) := by decide +kernel
theorem d188_40 : decode (hs_code 188) 40 = .ok (.aload_n 0, 1) := by decide +kernel
theorem d188_41 : decode (hs_code 188) 41 = .ok (.getfield 68, 3) := by decide +kernel
theorem d188_44 : decode (hs_code 188) 44 = .ok (.invokevirtual 392, 3) := by decide +kernel
theorem d188_47 : decode (hs_code 188) 47 = .ok (.aload_n 0, 1) := by decide +kernel
theorem d188_48 : decode (hs_code 188) 48 = .ok (.dup, 1) := by decide +kernel
theorem d188_49 : decode (hs_code 188) 49 = .ok (.getfield 389, 3) := by decide +kernel
theorem d188_52 : decode (hs_code 188) 52 = .ok (.iconst 1, 1) := by decide +kernel
theorem d188_53 : decode (hs_code 188) 53 = .ok (.iadd, 1) := by decide +kernel
theorem d188_54 : decode (hs_code 188) 54 = .ok (.putfield 389, 3) := by decide +kernel
theorem d188_57 : decode (hs_code 188) 57 = .ok (.aload_n 0, 1) := by decide +kernel
theorem d188_58 : decode (hs_code 188) 58 = .ok (.aload_n 0, 1) := by decide +kernel
theorem d188_59 : decode (hs_code 188) 59 = .ok (.getfield 389, 3) := by decide +kernel
theorem d188_62 : decode (hs_code 188) 62 = .ok (.invokevirtual 173, 3) := by decide +kernel
theorem d188_65 : decode (hs_code 188) 65 = .ok (.ireturn, 1) := by decide +kernel
theorem d190_0 : decode (hs_code 190) 0 = .ok (.aload_n 0, 1) := by decide +kernel
theorem d190_1 : decode (hs_code 190) 1 = .ok (.getfield 389, 3) := by decide +kernel
theorem d190_4 : decode (hs_code 190) 4 = .ok (.ifCond .gt 10, 3) := by decide +kernel
theorem d190_7 : decode (hs_code 190) 7 = .ok (.aload_n 0, 1) := by decide +kernel
theorem d190_8 : decode (hs_code 190) 8 = .ok (.bipush 8, 2) := by decide +kernel
theorem d190_10 : decode (hs_code 190) 10 = .ok (.invokevirtual 120, 3) := by decide +kernel
theorem d190_13 : decode (hs_code 190) 13 = .ok (.ireturn, 1) := by decide +kernel
theorem d190_14 : decode (hs_code 190) 14 = .ok (.aload_n 0, 1) := by decide +kernel
theorem d190_15 : decode (hs_code 190) 15 = .ok (.dup, 1) := by decide +kernel
theorem d190_16 : decode (hs_code 190) 16 = .ok (.getfield 389, 3) := by decide +kernel
theorem d190_19 : decode (hs_code 190) 19 = .ok (.iconst 1, 1) := by decide +kernel
theorem d190_20 : decode (hs_code 190) 20 = .ok (.isub, 1) := by decide +kernel
theorem d190_21 : decode (hs_code 190) 21 = .ok (.putfield 389, 3) := by decide +kernel
theorem d190_24 : decode (hs_code 190) 24 = .ok (.aload_n 0, 1) := by decide +kernel
theorem d190_25 : decode (hs_code 190) 25 = .ok (.getfield 60, 3) := by decide +kernel
theorem d190_28 : decode (hs_code 190) 28 = .ok (.aload_n 0, 1) := by decide +kernel
theorem d190_29 : decode (hs_code 190) 29 = .ok (.getfield 38, 3) := by decide +kernel
theorem d190_32 : decode (hs_code 190) 32 = .ok (.aload_n 0, 1) := by decide +kernel
theorem d190_33 : decode (hs_code 190) 33 = .ok (.getfield 389, 3) := by decide +kernel
theorem d190_36 : decode (hs_code 190) 36 = .ok (.aaload, 1) := by decide +kernel
theorem d190_37 : decode (hs_code 190) 37 = .ok (.invokevirtual 385, 3) := by decide +kernel
theorem d190_40 : decode (hs_code 190) 40 = .ok (.aload_n 0, 1) := by decide +kernel
theorem d190_41 : decode (hs_code 190) 41 = .ok (.getfield 68, 3) := by decide +kernel
theorem d190_44 : decode (hs_code 190) 44 = .ok (.aload_n 0, 1) := by decide +kernel
theorem d190_45 : decode (hs_code 190) 45 = .ok (.getfield 44, 3) := by decide +kernel
theorem d190_48 : decode (hs_code 190) 48 = .ok (.aload_n 0, 1) := by decide +kernel
theorem d190_49 : decode (hs_code 190) 49 = .ok (.getfield 389, 3) := by decide +kernel
theorem d190_52 : decode (hs_code 190) 52 = .ok (.aaload, 1) := by decide +kernel
theorem d190_53 : decode (hs_code 190) 53 = .ok (.invokevirtual 392, 3) := by decide +kernel
theorem d190_56 : decode (hs_code 190) 56 = .ok (.aload_n 0, 1) := by decide +kernel
theorem d190_57 : decode (hs_code 190) 57 = .ok (.aload_n 0, 1) := by decide +kernel
theorem d190_58 : decode (hs_code 190) 58 = .ok (.getfield 389, 3) := by decide +kernel
theorem d190_61 : decode (hs_code 190) 61 = .ok (.invokevirtual 173, 3) := by decide +kernel
theorem d190_64 : decode (hs_code 190) 64 = .ok (.ireturn, 1) := by decide +kernel
theorem f155_60 : hs_fld (hs_own 155) 60 = some (10, 8, 3, 0) := by decide +kernel
theorem f155_238 : hs_fld (hs_own 155) 238 = some (4, 12, 0, 0) := by decide +kernel
theorem f155_241 : hs_fld (hs_own 155) 241 = some (4, 6, 3, 1) := by decide +kernel
theorem f155_244 : hs_fld (hs_own 155) 244 = some (4, 7, 3, 1) := by decide +kernel
theorem f155_344 : hs_fld (hs_own 155) 344 = some (4, 11, 0, 0) := by decide +kernel
theorem f156_51 : hs_fld (hs_own 156) 51 = some (10, 6, 3, 1) := by decide +kernel
theorem f156_60 : hs_fld (hs_own 156) 60 = some (10, 8, 3, 0) := by decide +kernel
theorem f163_51 : hs_fld (hs_own 163) 51 = some (10, 6, 3, 1) := by decide +kernel
theorem f163_60 : hs_fld (hs_own 163) 60 = some (10, 8, 3, 0) := by decide +kernel
theorem f165_60 : hs_fld (hs_own 165) 60 = some (10, 8, 3, 0) := by decide +kernel
theorem f165_274 : hs_fld (hs_own 165) 274 = some (4, 13, 0, 0) := by decide +kernel
theorem f168_85 : hs_fld (hs_own 168) 85 = some (10, 18, 2, 0) := by decide +kernel
theorem f168_94 : hs_fld (hs_own 168) 94 = some (10, 17, 2, 0) := by decide +kernel
theorem f170_60 : hs_fld (hs_own 170) 60 = some (10, 8, 3, 0) := by decide +kernel
theorem f170_217 : hs_fld (hs_own 170) 217 = some (4, 2, 3, 1) := by decide +kernel
theorem f171_60 : hs_fld (hs_own 171) 60 = some (10, 8, 3, 0) := by decide +kernel
theorem f171_68 : hs_fld (hs_own 171) 68 = some (10, 10, 3, 0) := by decide +kernel
theorem f171_78 : hs_fld (hs_own 171) 78 = some (10, 12, 3, 1) := by decide +kernel
theorem f171_371 : hs_fld (hs_own 171) 371 = some (5, 7, 1, 0) := by decide +kernel
theorem f171_378 : hs_fld (hs_own 171) 378 = some (10, 14, 1, 0) := by decide +kernel
theorem f171_381 : hs_fld (hs_own 171) 381 = some (2, 0, 0, 0) := by decide +kernel
theorem f182_78 : hs_fld (hs_own 182) 78 = some (10, 12, 3, 1) := by decide +kernel
theorem f182_378 : hs_fld (hs_own 182) 378 = some (10, 14, 1, 0) := by decide +kernel
theorem f184_60 : hs_fld (hs_own 184) 60 = some (10, 8, 3, 0) := by decide +kernel
theorem f184_64 : hs_fld (hs_own 184) 64 = some (10, 9, 3, 0) := by decide +kernel
theorem f184_68 : hs_fld (hs_own 184) 68 = some (10, 10, 3, 0) := by decide +kernel
theorem f184_82 : hs_fld (hs_own 184) 82 = some (10, 13, 3, 1) := by decide +kernel
theorem f184_164 : hs_fld (hs_own 184) 164 = some (4, 1, 3, 1) := by decide +kernel
theorem f184_371 : hs_fld (hs_own 184) 371 = some (5, 7, 1, 0) := by decide +kernel
theorem f188_38 : hs_fld (hs_own 188) 38 = some (10, 4, 3, 1) := by decide +kernel
theorem f188_44 : hs_fld (hs_own 188) 44 = some (10, 5, 3, 1) := by decide +kernel
theorem f188_60 : hs_fld (hs_own 188) 60 = some (10, 8, 3, 0) := by decide +kernel
theorem f188_68 : hs_fld (hs_own 188) 68 = some (10, 10, 3, 0) := by decide +kernel
theorem f188_389 : hs_fld (hs_own 188) 389 = some (10, 15, 0, 0) := by decide +kernel
theorem f190_38 : hs_fld (hs_own 190) 38 = some (10, 4, 3, 1) := by decide +kernel
theorem f190_44 : hs_fld (hs_own 190) 44 = some (10, 5, 3, 1) := by decide +kernel
theorem f190_60 : hs_fld (hs_own 190) 60 = some (10, 8, 3, 0) := by decide +kernel
theorem f190_68 : hs_fld (hs_own 190) 68 = some (10, 10, 3, 0) := by decide +kernel
theorem f190_389 : hs_fld (hs_own 190) 389 = some (10, 15, 0, 0) := by decide +kernel
theorem rt155 : hs_ret 155 = (some .int) := by decide +kernel
theorem rt156 : hs_ret 156 = (some .int) := by decide +kernel
theorem rt163 : hs_ret 163 = (some .int) := by decide +kernel
theorem rt165 : hs_ret 165 = (some .boolean) := by decide +kernel
theorem rt167 : hs_ret 167 = (some .long) := by decide +kernel
theorem rt168 : hs_ret 168 = (some .boolean) := by decide +kernel
theorem rt169 : hs_ret 169 = (some .long) := by decide +kernel
theorem rt170 : hs_ret 170 = (some .boolean) := by decide +kernel
theorem rt171 : hs_ret 171 = (some .int) := by decide +kernel
theorem rt182 : hs_ret 182 = (some .int) := by decide +kernel
theorem rt184 : hs_ret 184 = (some .boolean) := by decide +kernel
theorem rt188 : hs_ret 188 = (some .int) := by decide +kernel
theorem rt190 : hs_ret 190 = (some .int) := by decide +kernel
section BB
variable {scr : List Int32} {d : Nat} {h : hs_H} {S : List hs_S} {I : Nat → Nat → Int32} {L : Nat → Nat → Int64} {R : Nat → Nat → Nat}
theorem e155 {t0 : Nat} {x1 : Int32} : hs_C scr d 155 [.ref t0, .int x1] h = hs_R scr d 155 0 [some (.ref t0), some (.int x1), none, none] [] h := by rw [hs_C, mL155]; rfl
theorem b155_0 {t0 t0_8 : Nat} {x1 : Int32} (o_t0 : ok10 S R t0) (e_t0_8 : R t0 8 = t0_8) (o_t0_8 : ok4 S R t0_8) : hs_R scr d 155 0 [some (.ref t0), some (.int x1), none, none] [] (S, I, L, R) = (if x1 < 0 then hs_R scr d 155 15 [some (.ref t0), some (.int x1), none, none] [] (S, I, L, R) else (if x1 < (I t0_8 11) then hs_R scr d 155 25 [some (.ref t0), some (.int x1), some (.int 0), some (.int 0)] [] (S, I, L, R) else hs_R scr d 155 15 [some (.ref t0), some (.int x1), none, none] [] (S, I, L, R))) := Eq.trans (r_il_n d155_0 rfl) (Eq.trans (r_zlt d155_1 rfl) (q_ite (rfl) (Eq.trans (r_il_n d155_4 rfl) (Eq.trans (r_al_n d155_5 rfl) (Eq.trans (r_getRe d155_6 f155_60 o_t0.2.1 e_t0_8 o_t0_8.1) (Eq.trans (r_getI d155_9 f155_344 o_t0_8.2.1) (Eq.trans (r_clt d155_12 rfl) (q_ite (Eq.trans (r_ic d155_21 kI_0) (Eq.trans (r_is_n (loc' := [some (.ref t0), some (.int x1), some (.int 0), none]) d155_22 rfl) (Eq.trans (r_ic d155_23 kI_0) (Eq.trans (r_is_n (loc' := [some (.ref t0), some (.int x1), some (.int 0), some (.int 0)]) d155_24 rfl) (rfl))))) (rfl)))))))))
theorem b155_15 {t0 : Nat} {x1 : Int32} (o_t0 : ok10 S R t0) : hs_R scr (d + 1) 155 15 [some (.ref t0), some (.int x1), none, none] [] (S, I, L, R) = ((hs_C scr d 28 [.ref t0, .int 2] (S, I, L, R)).bind fun o => hs_R scr (d + 1) 155 20 [some (.ref t0), some (.int x1), none, none] (o.1.toList ++ []) o.2) := Eq.trans (r_al_n d155_15 rfl) (Eq.trans (r_ic d155_16 kI_2) (r_cvE (as := [.int 2]) (r := []) d155_17 c155_120 ow28 o_t0.2.1 np28.symm rfl (hs_fitE mL28 (Nat.le_of_ble_eq_true rfl))))
theorem b155_20 {t0 : Nat} {x1 s0 : Int32}  : hs_R scr d 155 20 [some (.ref t0), some (.int x1), none, none] [.int s0] (S, I, L, R) = some (some (.int s0), (S, I, L, R)) := r_ri d155_20 rt155
theorem b155_25 {t0 t0_8 : Nat} {x1 x2 x3 : Int32} (o_t0 : ok10 S R t0) (e_t0_8 : R t0 8 = t0_8) (o_t0_8 : ok4 S R t0_8) : hs_R scr (d + 1) 155 25 [some (.ref t0), some (.int x1), some (.int x2), some (.int x3)] [] (S, I, L, R) = (if (I t0_8 12) ≤ x3 then ((hs_C scr d 68 [.ref t0, .int x2] (S, I, L, R)).bind fun o => hs_R scr (d + 1) 155 104 [some (.ref t0), some (.int x1), some (.int x2), some (.int x3)] (o.1.toList ++ []) o.2) else (if hs_ib x3 10 = true then (if (I (t0_8 + 14) (Int32.toNatClampNeg x3)) = x1 then (if hs_ib x3 10 = true then hs_R scr (d + 1) 155 93 [some (.ref t0), some (.int x1), some (.int (x2 ||| ((1 : Int32) <<< ((I (t0_8 + 15) (Int32.toNatClampNeg x3)) &&& 31)))), some (.int x3)] [] (S, I, L, R) else none) else (if hs_ib x3 10 = true then (if (I (t0_8 + 15) (Int32.toNatClampNeg x3)) = x1 then (if hs_ib x3 10 = true then hs_R scr (d + 1) 155 93 [some (.ref t0), some (.int x1), some (.int (x2 ||| ((1 : Int32) <<< ((I (t0_8 + 14) (Int32.toNatClampNeg x3)) &&& 31)))), some (.int x3)] [] (S, I, L, R) else none) else hs_R scr (d + 1) 155 93 [some (.ref t0), some (.int x1), some (.int x2), some (.int x3)] [] (S, I, L, R)) else none)) else none)) := Eq.trans (r_il_n d155_25 rfl) (Eq.trans (r_al_n d155_26 rfl) (Eq.trans (r_getRe d155_27 f155_60 o_t0.2.1 e_t0_8 o_t0_8.1) (Eq.trans (r_getI d155_30 f155_238 o_t0_8.2.1) (Eq.trans (r_cge d155_33 rfl) (q_ite (Eq.trans (r_al_n d155_99 rfl) (Eq.trans (r_il_n d155_100 rfl) (r_cvE (as := [.int x2]) (r := []) d155_101 c155_173 ow68 o_t0.2.1 np68.symm rfl (hs_fitE mL68 (Nat.le_of_ble_eq_true rfl))))) (Eq.trans (r_al_n d155_36 rfl) (Eq.trans (r_getRe d155_37 f155_60 o_t0.2.1 e_t0_8 o_t0_8.1) (Eq.trans (r_getRe d155_40 f155_241 o_t0_8.2.1 (o_t0_8.2.2.2.2.2.2.2.2.2.2.2.2.2.2.1) (Nat.le_trans o_t0_8.1 (Nat.le_add_right _ _))) (Eq.trans (r_il_n d155_43 rfl) (Eq.trans (r_iald d155_44 (o_t0_8.2.2.2.2.2.2.2.2.2.2.2.2.2.2.2.1)) (q_ite (Eq.trans (r_il_n d155_45 rfl) (Eq.trans (r_cne d155_46 rfl) (q_ite (Eq.trans (r_il_n d155_49 rfl) (Eq.trans (r_ic d155_50 kI_1) (Eq.trans (r_al_n d155_51 rfl) (Eq.trans (r_getRe d155_52 f155_60 o_t0.2.1 e_t0_8 o_t0_8.1) (Eq.trans (r_getRe d155_55 f155_244 o_t0_8.2.1 (o_t0_8.2.2.2.2.2.2.2.2.2.2.2.2.2.2.2.2.1) (Nat.le_trans o_t0_8.1 (Nat.le_add_right _ _))) (Eq.trans (r_il_n d155_58 rfl) (Eq.trans (r_iald d155_59 (o_t0_8.2.2.2.2.2.2.2.2.2.2.2.2.2.2.2.2.2)) (q_ite (Eq.trans (r_ishl d155_60) (Eq.trans (r_ior d155_61) (Eq.trans (r_is_n (loc' := [some (.ref t0), some (.int x1), some (.int (x2 ||| ((1 : Int32) <<< ((I (t0_8 + 15) (Int32.toNatClampNeg x3)) &&& 31)))), some (.int x3)]) d155_62 rfl) (Eq.trans (r_goto d155_63 rfl) (rfl))))) rfl)))))))) (Eq.trans (r_al_n d155_66 rfl) (Eq.trans (r_getRe d155_67 f155_60 o_t0.2.1 e_t0_8 o_t0_8.1) (Eq.trans (r_getRe d155_70 f155_244 o_t0_8.2.1 (o_t0_8.2.2.2.2.2.2.2.2.2.2.2.2.2.2.2.2.1) (Nat.le_trans o_t0_8.1 (Nat.le_add_right _ _))) (Eq.trans (r_il_n d155_73 rfl) (Eq.trans (r_iald d155_74 (o_t0_8.2.2.2.2.2.2.2.2.2.2.2.2.2.2.2.2.2)) (q_ite (Eq.trans (r_il_n d155_75 rfl) (Eq.trans (r_cne d155_76 rfl) (q_ite (Eq.trans (r_il_n d155_79 rfl) (Eq.trans (r_ic d155_80 kI_1) (Eq.trans (r_al_n d155_81 rfl) (Eq.trans (r_getRe d155_82 f155_60 o_t0.2.1 e_t0_8 o_t0_8.1) (Eq.trans (r_getRe d155_85 f155_241 o_t0_8.2.1 (o_t0_8.2.2.2.2.2.2.2.2.2.2.2.2.2.2.1) (Nat.le_trans o_t0_8.1 (Nat.le_add_right _ _))) (Eq.trans (r_il_n d155_88 rfl) (Eq.trans (r_iald d155_89 (o_t0_8.2.2.2.2.2.2.2.2.2.2.2.2.2.2.2.1)) (q_ite (Eq.trans (r_ishl d155_90) (Eq.trans (r_ior d155_91) (Eq.trans (r_is_n (loc' := [some (.ref t0), some (.int x1), some (.int (x2 ||| ((1 : Int32) <<< ((I (t0_8 + 14) (Int32.toNatClampNeg x3)) &&& 31)))), some (.int x3)]) d155_92 rfl) (rfl)))) rfl)))))))) (rfl)))) rfl))))))))) rfl)))))))))))
theorem b155_93 {t0 : Nat} {x1 x2 x3 : Int32}  : hs_R scr d 155 93 [some (.ref t0), some (.int x1), some (.int x2), some (.int x3)] [] (S, I, L, R) = hs_R scr d 155 25 [some (.ref t0), some (.int x1), some (.int x2), some (.int (x3 + 1))] [] (S, I, L, R) := Eq.trans (r_inc (loc' := [some (.ref t0), some (.int x1), some (.int x2), some (.int (x3 + 1))]) d155_93 kI_1 rfl rfl) (Eq.trans (r_goto d155_96 rfl) (rfl))
theorem b155_104 {t0 : Nat} {x1 x2 x3 s0 : Int32}  : hs_R scr d 155 104 [some (.ref t0), some (.int x1), some (.int x2), some (.int x3)] [.int s0] (S, I, L, R) = some (some (.int s0), (S, I, L, R)) := r_ri d155_104 rt155
theorem e156 {t0 : Nat} {x1 : Int32} : hs_C scr d 156 [.ref t0, .int x1] h = hs_R scr d 156 0 [some (.ref t0), some (.int x1)] [] h := by rw [hs_C, mL156]; rfl
theorem b156_0 {t0 t0_8 : Nat} {x1 : Int32} (o_t0 : ok10 S R t0) (e_t0_8 : R t0 8 = t0_8) (o_t0_8 : ok4 S R t0_8) : hs_R scr (d + 1) 156 0 [some (.ref t0), some (.int x1)] [] (S, I, L, R) = (if x1 < 0 then hs_R scr (d + 1) 156 9 [some (.ref t0), some (.int x1)] [] (S, I, L, R) else (if x1 ≤ 3 then ((hs_C scr d 157 [.ref (t0 + 13), .ref t0_8, .int x1] (S, I, L, R)).bind fun o => hs_R scr (d + 1) 156 27 [some (.ref t0), some (.int x1)] (o.1.toList ++ []) o.2) else hs_R scr (d + 1) 156 9 [some (.ref t0), some (.int x1)] [] (S, I, L, R))) := Eq.trans (r_il_n d156_0 rfl) (Eq.trans (r_zlt d156_1 rfl) (q_ite (rfl) (Eq.trans (r_il_n d156_4 rfl) (Eq.trans (r_ic d156_5 kI_3) (Eq.trans (r_cle d156_6 rfl) (q_ite (Eq.trans (r_al_n d156_15 rfl) (Eq.trans (r_getRe d156_16 f156_51 o_t0.2.1 (o_t0.2.2.2.2.2.2.2.2.2.2.2.2.2.2.1) (Nat.le_trans o_t0.1 (Nat.le_add_right _ _))) (Eq.trans (r_al_n d156_19 rfl) (Eq.trans (r_getRe d156_20 f156_60 o_t0.2.1 e_t0_8 o_t0_8.1) (Eq.trans (r_il_n d156_23 rfl) (r_cvE (as := [.ref t0_8, .int x1]) (r := []) d156_24 c156_347 ow157 (o_t0.2.2.2.2.2.2.2.2.2.2.2.2.2.2.2.1).2.1 np157.symm rfl (hs_fitE mL157 (Nat.le_of_ble_eq_true rfl)))))))) (rfl)))))))
theorem b156_9 {t0 : Nat} {x1 : Int32} (o_t0 : ok10 S R t0) : hs_R scr (d + 1) 156 9 [some (.ref t0), some (.int x1)] [] (S, I, L, R) = ((hs_C scr d 28 [.ref t0, .int 5] (S, I, L, R)).bind fun o => hs_R scr (d + 1) 156 14 [some (.ref t0), some (.int x1)] (o.1.toList ++ []) o.2) := Eq.trans (r_al_n d156_9 rfl) (Eq.trans (r_ic d156_10 kI_5) (r_cvE (as := [.int 5]) (r := []) d156_11 c156_120 ow28 o_t0.2.1 np28.symm rfl (hs_fitE mL28 (Nat.le_of_ble_eq_true rfl))))
theorem b156_14 {t0 : Nat} {x1 s0 : Int32}  : hs_R scr d 156 14 [some (.ref t0), some (.int x1)] [.int s0] (S, I, L, R) = some (some (.int s0), (S, I, L, R)) := r_ri d156_14 rt156
theorem b156_27 {t0 : Nat} {x1 : Int32} (o_t0 : ok10 S R t0) : hs_R scr (d + 1) 156 27 [some (.ref t0), some (.int x1)] [] (S, I, L, R) = ((hs_C scr d 158 [.ref (t0 + 13)] (S, I, L, R)).bind fun o => hs_R scr (d + 1) 156 35 [some (.ref t0), some (.int x1)] (o.1.toList ++ [.ref t0]) o.2) := Eq.trans (r_al_n d156_27 rfl) (Eq.trans (r_al_n d156_28 rfl) (Eq.trans (r_getRe d156_29 f156_51 o_t0.2.1 (o_t0.2.2.2.2.2.2.2.2.2.2.2.2.2.2.1) (Nat.le_trans o_t0.1 (Nat.le_add_right _ _))) (r_cvE (as := []) (r := [.ref t0]) d156_32 c156_351 ow158 (o_t0.2.2.2.2.2.2.2.2.2.2.2.2.2.2.2.1).2.1 np158.symm rfl (hs_fitE mL158 (Nat.le_of_ble_eq_true rfl)))))
theorem b156_35 {t0 u0 : Nat} {x1 s1 : Int32} (o_u0 : ok10 S R u0) : hs_R scr (d + 1) 156 35 [some (.ref t0), some (.int x1)] [.int s1, .ref u0] (S, I, L, R) = ((hs_C scr d 68 [.ref u0, .int s1] (S, I, L, R)).bind fun o => hs_R scr (d + 1) 156 38 [some (.ref t0), some (.int x1)] (o.1.toList ++ []) o.2) := r_cvE (as := [.int s1]) (r := []) d156_35 c156_173 ow68 o_u0.2.1 np68.symm rfl (hs_fitE mL68 (Nat.le_of_ble_eq_true rfl))
theorem b156_38 {t0 : Nat} {x1 s0 : Int32}  : hs_R scr d 156 38 [some (.ref t0), some (.int x1)] [.int s0] (S, I, L, R) = some (some (.int s0), (S, I, L, R)) := r_ri d156_38 rt156
theorem e163 {t0 : Nat} {x1 : Int32} : hs_C scr d 163 [.ref t0, .int x1] h = hs_R scr d 163 0 [some (.ref t0), some (.int x1), none] [] h := by rw [hs_C, mL163]; rfl
theorem b163_0 {t0 t0_8 : Nat} {x1 : Int32} (o_t0 : ok10 S R t0) (e_t0_8 : R t0 8 = t0_8) (o_t0_8 : ok4 S R t0_8) : hs_R scr (d + 1) 163 0 [some (.ref t0), some (.int x1), none] [] (S, I, L, R) = (if x1 < 1 then hs_R scr (d + 1) 163 10 [some (.ref t0), some (.int x1), none] [] (S, I, L, R) else (if x1 ≤ 3 then ((hs_C scr d 157 [.ref (t0 + 13), .ref t0_8, .int x1] (S, I, L, R)).bind fun o => hs_R scr (d + 1) 163 28 [some (.ref t0), some (.int x1), none] (o.1.toList ++ []) o.2) else hs_R scr (d + 1) 163 10 [some (.ref t0), some (.int x1), none] [] (S, I, L, R))) := Eq.trans (r_il_n d163_0 rfl) (Eq.trans (r_ic d163_1 kI_1) (Eq.trans (r_clt d163_2 rfl) (q_ite (rfl) (Eq.trans (r_il_n d163_5 rfl) (Eq.trans (r_ic d163_6 kI_3) (Eq.trans (r_cle d163_7 rfl) (q_ite (Eq.trans (r_al_n d163_16 rfl) (Eq.trans (r_getRe d163_17 f163_51 o_t0.2.1 (o_t0.2.2.2.2.2.2.2.2.2.2.2.2.2.2.1) (Nat.le_trans o_t0.1 (Nat.le_add_right _ _))) (Eq.trans (r_al_n d163_20 rfl) (Eq.trans (r_getRe d163_21 f163_60 o_t0.2.1 e_t0_8 o_t0_8.1) (Eq.trans (r_il_n d163_24 rfl) (r_cvE (as := [.ref t0_8, .int x1]) (r := []) d163_25 c163_347 ow157 (o_t0.2.2.2.2.2.2.2.2.2.2.2.2.2.2.2.1).2.1 np157.symm rfl (hs_fitE mL157 (Nat.le_of_ble_eq_true rfl)))))))) (rfl))))))))
theorem b163_10 {t0 : Nat} {x1 : Int32} (o_t0 : ok10 S R t0) : hs_R scr (d + 1) 163 10 [some (.ref t0), some (.int x1), none] [] (S, I, L, R) = ((hs_C scr d 28 [.ref t0, .int 5] (S, I, L, R)).bind fun o => hs_R scr (d + 1) 163 15 [some (.ref t0), some (.int x1), none] (o.1.toList ++ []) o.2) := Eq.trans (r_al_n d163_10 rfl) (Eq.trans (r_ic d163_11 kI_5) (r_cvE (as := [.int 5]) (r := []) d163_12 c163_120 ow28 o_t0.2.1 np28.symm rfl (hs_fitE mL28 (Nat.le_of_ble_eq_true rfl))))
theorem b163_15 {t0 : Nat} {x1 s0 : Int32}  : hs_R scr d 163 15 [some (.ref t0), some (.int x1), none] [.int s0] (S, I, L, R) = some (some (.int s0), (S, I, L, R)) := r_ri d163_15 rt163
theorem b163_28 {t0 : Nat} {x1 : Int32} (o_t0 : ok10 S R t0) : hs_R scr (d + 1) 163 28 [some (.ref t0), some (.int x1), none] [] (S, I, L, R) = ((hs_C scr d 164 [.ref (t0 + 13)] (S, I, L, R)).bind fun o => hs_R scr (d + 1) 163 35 [some (.ref t0), some (.int x1), none] (o.1.toList ++ []) o.2) := Eq.trans (r_al_n d163_28 rfl) (Eq.trans (r_getRe d163_29 f163_51 o_t0.2.1 (o_t0.2.2.2.2.2.2.2.2.2.2.2.2.2.2.1) (Nat.le_trans o_t0.1 (Nat.le_add_right _ _))) (r_cvE (as := []) (r := []) d163_32 c163_354 ow164 (o_t0.2.2.2.2.2.2.2.2.2.2.2.2.2.2.2.1).2.1 np164.symm rfl (hs_fitE mL164 (Nat.le_of_ble_eq_true rfl))))
theorem b163_35 {t0 : Nat} {x1 s0 : Int32} (o_t0 : ok10 S R t0) : hs_R scr (d + 1) 163 35 [some (.ref t0), some (.int x1), none] [.int s0] (S, I, L, R) = (if (0 : Int32) ≤ s0 then ((hs_C scr d 68 [.ref t0, .int s0] (S, I, L, R)).bind fun o => hs_R scr (d + 1) 163 54 [some (.ref t0), some (.int x1), some (.int s0)] (o.1.toList ++ []) o.2) else ((hs_C scr d 28 [.ref t0, .int 8] (S, I, L, R)).bind fun o => hs_R scr (d + 1) 163 46 [some (.ref t0), some (.int x1), some (.int s0)] (o.1.toList ++ []) o.2)) := Eq.trans (r_is_n (loc' := [some (.ref t0), some (.int x1), some (.int s0)]) d163_35 rfl) (Eq.trans (r_il_n d163_36 rfl) (Eq.trans (r_zge d163_37 rfl) (q_ite (Eq.trans (r_al_n d163_49 rfl) (Eq.trans (r_il_n d163_50 rfl) (r_cvE (as := [.int s0]) (r := []) d163_51 c163_173 ow68 o_t0.2.1 np68.symm rfl (hs_fitE mL68 (Nat.le_of_ble_eq_true rfl))))) (Eq.trans (r_al_n d163_40 rfl) (Eq.trans (r_bp d163_41 kB_8) (r_cvE (as := [.int 8]) (r := []) d163_43 c163_120 ow28 o_t0.2.1 np28.symm rfl (hs_fitE mL28 (Nat.le_of_ble_eq_true rfl))))))))
theorem b163_46 {t0 : Nat} {x1 x2 s0 : Int32}  : hs_R scr d 163 46 [some (.ref t0), some (.int x1), some (.int x2)] [.int s0] (S, I, L, R) = hs_R scr d 163 54 [some (.ref t0), some (.int x1), some (.int x2)] [.int s0] (S, I, L, R) := Eq.trans (r_goto d163_46 rfl) (rfl)
theorem b163_54 {t0 : Nat} {x1 x2 s0 : Int32}  : hs_R scr d 163 54 [some (.ref t0), some (.int x1), some (.int x2)] [.int s0] (S, I, L, R) = some (some (.int s0), (S, I, L, R)) := r_ri d163_54 rt163
theorem e165 {t0 : Nat} {x1 : Int32} {x2 : Int32} : hs_C scr d 165 [.ref t0, .int x1, .int x2] h = hs_R scr d 165 0 [some (.ref t0), some (.int x1), some (.int x2), none, none, none, none, none, none] [] h := by rw [hs_C, mL165]; rfl
theorem b165_0 {t0 : Nat} {x1 x2 : Int32} (o_t0 : ok10 S R t0) : hs_R scr (d + 1) 165 0 [some (.ref t0), some (.int x1), some (.int x2), none, none, none, none, none, none] [] (S, I, L, R) = ((hs_C scr d 95 [.ref t0, .int x1] (S, I, L, R)).bind fun o => hs_R scr (d + 1) 165 5 [some (.ref t0), some (.int x1), some (.int x2), none, none, none, none, none, none] (o.1.toList ++ []) o.2) := Eq.trans (r_al_n d165_0 rfl) (Eq.trans (r_il_n d165_1 rfl) (r_cvE (as := [.int x1]) (r := []) d165_2 c165_232 ow95 o_t0.2.1 np95.symm rfl (hs_fitE mL95 (Nat.le_of_ble_eq_true rfl))))
theorem b165_5 {t0 t0_8 : Nat} {x1 x2 s0 : Int32} (o_t0 : ok10 S R t0) (e_t0_8 : R t0 8 = t0_8) (o_t0_8 : ok4 S R t0_8) : hs_R scr (d + 1) 165 5 [some (.ref t0), some (.int x1), some (.int x2), none, none, none, none, none, none] [.int s0] (S, I, L, R) = (if s0 = 0 then ((hs_C scr d 18 [.ref t0, .int 2] (S, I, L, R)).bind fun o => hs_R scr (d + 1) 165 13 [some (.ref t0), some (.int x1), some (.int x2), none, none, none, none, none, none] (o.1.toList ++ []) o.2) else (if x2 < 0 then hs_R scr (d + 1) 165 24 [some (.ref t0), some (.int x1), some (.int x2), none, none, none, none, none, none] [] (S, I, L, R) else (if x2 ≤ 8 then ((hs_C scr d 166 [.ref t0_8, .int x1] (S, I, L, R)).bind fun o => hs_R scr (d + 1) 165 38 [some (.ref t0), some (.int x1), some (.int x2), none, none, none, none, none, none] (o.1.toList ++ []) o.2) else hs_R scr (d + 1) 165 24 [some (.ref t0), some (.int x1), some (.int x2), none, none, none, none, none, none] [] (S, I, L, R)))) := Eq.trans (r_zne d165_5 rfl) (q_ite (Eq.trans (r_al_n d165_8 rfl) (Eq.trans (r_ic d165_9 kI_2) (r_cvE (as := [.int 2]) (r := []) d165_10 c165_101 ow18 o_t0.2.1 np18.symm rfl (hs_fitE mL18 (Nat.le_of_ble_eq_true rfl))))) (Eq.trans (r_il_n d165_14 rfl) (Eq.trans (r_zlt d165_15 rfl) (q_ite (rfl) (Eq.trans (r_il_n d165_18 rfl) (Eq.trans (r_bp d165_19 kB_8) (Eq.trans (r_cle d165_21 rfl) (q_ite (Eq.trans (r_al_n d165_30 rfl) (Eq.trans (r_getRe d165_31 f165_60 o_t0.2.1 e_t0_8 o_t0_8.1) (Eq.trans (r_il_n d165_34 rfl) (r_cvE (as := [.int x1]) (r := []) d165_35 c165_357 ow166 o_t0_8.2.1 np166.symm rfl (hs_fitE mL166 (Nat.le_of_ble_eq_true rfl)))))) (rfl)))))))))
theorem b165_13 {t0 : Nat} {x1 x2 s0 : Int32}  : hs_R scr d 165 13 [some (.ref t0), some (.int x1), some (.int x2), none, none, none, none, none, none] [.int s0] (S, I, L, R) = (if s0 = 0 ∨ s0 = 1 then some (some (.int s0), (S, I, L, R)) else none) := r_rz d165_13 rt165
theorem b165_24 {t0 : Nat} {x1 x2 : Int32} (o_t0 : ok10 S R t0) : hs_R scr (d + 1) 165 24 [some (.ref t0), some (.int x1), some (.int x2), none, none, none, none, none, none] [] (S, I, L, R) = ((hs_C scr d 18 [.ref t0, .int 5] (S, I, L, R)).bind fun o => hs_R scr (d + 1) 165 29 [some (.ref t0), some (.int x1), some (.int x2), none, none, none, none, none, none] (o.1.toList ++ []) o.2) := Eq.trans (r_al_n d165_24 rfl) (Eq.trans (r_ic d165_25 kI_5) (r_cvE (as := [.int 5]) (r := []) d165_26 c165_101 ow18 o_t0.2.1 np18.symm rfl (hs_fitE mL18 (Nat.le_of_ble_eq_true rfl))))
theorem b165_29 {t0 : Nat} {x1 x2 s0 : Int32}  : hs_R scr d 165 29 [some (.ref t0), some (.int x1), some (.int x2), none, none, none, none, none, none] [.int s0] (S, I, L, R) = (if s0 = 0 ∨ s0 = 1 then some (some (.int s0), (S, I, L, R)) else none) := r_rz d165_29 rt165
theorem b165_38 {t0 : Nat} {x1 x2 s0 : Int32}  : hs_R scr d 165 38 [some (.ref t0), some (.int x1), some (.int x2), none, none, none, none, none, none] [.int s0] (S, I, L, R) = hs_R scr d 165 48 [some (.ref t0), some (.int x1), some (.int x2), some (.int s0), some (.long 1), none, some (.long 0), none, some (.int 0)] [] (S, I, L, R) := Eq.trans (r_is_n (loc' := [some (.ref t0), some (.int x1), some (.int x2), some (.int s0), none, none, none, none, none]) d165_38 rfl) (Eq.trans (r_lc d165_39 kL_1) (Eq.trans (r_ls (loc' := [some (.ref t0), some (.int x1), some (.int x2), some (.int s0), some (.long 1), none, none, none, none]) d165_40 rfl) (Eq.trans (r_lc d165_42 kL_0) (Eq.trans (r_ls (loc' := [some (.ref t0), some (.int x1), some (.int x2), some (.int s0), some (.long 1), none, some (.long 0), none, none]) d165_43 rfl) (Eq.trans (r_ic d165_45 kI_0) (Eq.trans (r_is (loc' := [some (.ref t0), some (.int x1), some (.int x2), some (.int s0), some (.long 1), none, some (.long 0), none, some (.int 0)]) d165_46 rfl) (rfl)))))))
theorem b165_48 {t0 t0_8 : Nat} {x1 x2 x3 x8 : Int32} {y4 y6 : Int64} (o_t0 : ok10 S R t0) (e_t0_8 : R t0 8 = t0_8) (o_t0_8 : ok4 S R t0_8) : hs_R scr (d + 1) 165 48 [some (.ref t0), some (.int x1), some (.int x2), some (.int x3), some (.long y4), none, some (.long y6), none, some (.int x8)] [] (S, I, L, R) = (if x2 < x8 then hs_R scr (d + 1) 165 120 [some (.ref t0), some (.int x1), some (.int x2), some (.int x3), some (.long y4), none, some (.long y6), none, some (.int x8)] [] (S, I, L, R) else (if x3 < x8 then hs_R scr (d + 1) 165 120 [some (.ref t0), some (.int x1), some (.int x2), some (.int x3), some (.long y4), none, some (.long y6), none, some (.int x8)] [] (S, I, L, R) else ((hs_C scr d 167 [.int (I t0_8 13), .int x8] (S, I, L, R)).bind fun o => hs_R scr (d + 1) 165 76 [some (.ref t0), some (.int x1), some (.int x2), some (.int x3), some (.long y4), none, some (.long y6), none, some (.int x8)] (o.1.toList ++ [.long y4, .long y6]) o.2))) := Eq.trans (r_il d165_48 rfl) (Eq.trans (r_il_n d165_50 rfl) (Eq.trans (r_cgt d165_51 rfl) (q_ite (rfl) (Eq.trans (r_il d165_54 rfl) (Eq.trans (r_il_n d165_56 rfl) (Eq.trans (r_cgt d165_57 rfl) (q_ite (rfl) (Eq.trans (r_ll d165_60 rfl) (Eq.trans (r_ll d165_62 rfl) (Eq.trans (r_al_n d165_64 rfl) (Eq.trans (r_getRe d165_65 f165_60 o_t0.2.1 e_t0_8 o_t0_8.1) (Eq.trans (r_getI d165_68 f165_274 o_t0_8.2.1) (Eq.trans (r_il d165_71 rfl) (r_cs (as := [.int (I t0_8 13), .int x8]) (r := [.long y4, .long y6]) d165_73 c165_360 np167.symm rfl (hs_fitE mL167 (Nat.le_of_ble_eq_true rfl))))))))))))))))
theorem b165_76 {t0 t0_8 : Nat} {x1 x2 x3 x8 : Int32} {y4 y6 v0 v1 v2 : Int64} (o_t0 : ok10 S R t0) (e_t0_8 : R t0 8 = t0_8) (o_t0_8 : ok4 S R t0_8) : hs_R scr (d + 1) 165 76 [some (.ref t0), some (.int x1), some (.int x2), some (.int x3), some (.long y4), none, some (.long y6), none, some (.int x8)] [.long v2, .long v1, .long v0] (S, I, L, R) = ((hs_C scr d 167 [.int ((16 : Int32) - (I t0_8 13)), .int (x3 - x8)] (S, I, L, R)).bind fun o => hs_R scr (d + 1) 165 94 [some (.ref t0), some (.int x1), some (.int x2), some (.int x3), some (.long y4), none, some (.long y6), none, some (.int x8)] (o.1.toList ++ [.long (v1 * v2), .long v0]) o.2) := Eq.trans (r_lmul d165_76) (Eq.trans (r_bp d165_77 kB_16) (Eq.trans (r_al_n d165_79 rfl) (Eq.trans (r_getRe d165_80 f165_60 o_t0.2.1 e_t0_8 o_t0_8.1) (Eq.trans (r_getI d165_83 f165_274 o_t0_8.2.1) (Eq.trans (r_isub d165_86) (Eq.trans (r_il_n d165_87 rfl) (Eq.trans (r_il d165_88 rfl) (Eq.trans (r_isub d165_90) (r_cs (as := [.int ((16 : Int32) - (I t0_8 13)), .int (x3 - x8)]) (r := [.long (v1 * v2), .long v0]) d165_91 c165_360 np167.symm rfl (hs_fitE mL167 (Nat.le_of_ble_eq_true rfl)))))))))))
theorem b165_94 {t0 : Nat} {x1 x2 x3 x8 : Int32} {y4 y6 v0 v1 v2 : Int64}  : hs_R scr d 165 94 [some (.ref t0), some (.int x1), some (.int x2), some (.int x3), some (.long y4), none, some (.long y6), none, some (.int x8)] [.long v2, .long v1, .long v0] (S, I, L, R) = (if (Int32.toInt64 (x8 + 1)) = 0 then none else hs_R scr d 165 48 [some (.ref t0), some (.int x1), some (.int x2), some (.int x3), some (.long ((y4 * (Int32.toInt64 (x3 - x8))) / (Int32.toInt64 (x8 + 1)))), none, some (.long (v0 + (v1 * v2))), none, some (.int (x8 + 1))] [] (S, I, L, R)) := Eq.trans (r_lmul d165_94) (Eq.trans (r_ladd d165_95) (Eq.trans (r_ls (loc' := [some (.ref t0), some (.int x1), some (.int x2), some (.int x3), some (.long y4), none, some (.long (v0 + (v1 * v2))), none, some (.int x8)]) d165_96 rfl) (Eq.trans (r_ll d165_98 rfl) (Eq.trans (r_il_n d165_100 rfl) (Eq.trans (r_il d165_101 rfl) (Eq.trans (r_isub d165_103) (Eq.trans (r_i2l d165_104) (Eq.trans (r_lmul d165_105) (Eq.trans (r_il d165_106 rfl) (Eq.trans (r_ic d165_108 kI_1) (Eq.trans (r_iadd d165_109) (Eq.trans (r_i2l d165_110) (Eq.trans (r_ldiv d165_111) (q_ite rfl (Eq.trans (r_ls (loc' := [some (.ref t0), some (.int x1), some (.int x2), some (.int x3), some (.long ((y4 * (Int32.toInt64 (x3 - x8))) / (Int32.toInt64 (x8 + 1)))), none, some (.long (v0 + (v1 * v2))), none, some (.int x8)]) d165_112 rfl) (Eq.trans (r_inc (loc' := [some (.ref t0), some (.int x1), some (.int x2), some (.int x3), some (.long ((y4 * (Int32.toInt64 (x3 - x8))) / (Int32.toInt64 (x8 + 1)))), none, some (.long (v0 + (v1 * v2))), none, some (.int (x8 + 1))]) d165_114 kI_1 rfl rfl) (Eq.trans (r_goto d165_117 rfl) (rfl))))))))))))))))))
theorem b165_120 {t0 : Nat} {x1 x2 x3 x8 : Int32} {y4 y6 : Int64}  : hs_R scr (d + 1) 165 120 [some (.ref t0), some (.int x1), some (.int x2), some (.int x3), some (.long y4), none, some (.long y6), none, some (.int x8)] [] (S, I, L, R) = ((hs_C scr d 167 [.int 16, .int x3] (S, I, L, R)).bind fun o => hs_R scr (d + 1) 165 129 [some (.ref t0), some (.int x1), some (.int x2), some (.int x3), some (.long y4), none, some (.long y6), none, some (.int x8)] (o.1.toList ++ [.long y6, .ref t0]) o.2) := Eq.trans (r_al_n d165_120 rfl) (Eq.trans (r_ll d165_121 rfl) (Eq.trans (r_bp d165_123 kB_16) (Eq.trans (r_il_n d165_125 rfl) (r_cs (as := [.int 16, .int x3]) (r := [.long y6, .ref t0]) d165_126 c165_360 np167.symm rfl (hs_fitE mL167 (Nat.le_of_ble_eq_true rfl))))))
theorem b165_129 {t0 u0 : Nat} {x1 x2 x3 x8 : Int32} {y4 y6 v1 v2 : Int64} (o_u0 : ok10 S R u0) : hs_R scr (d + 1) 165 129 [some (.ref t0), some (.int x1), some (.int x2), some (.int x3), some (.long y4), none, some (.long y6), none, some (.int x8)] [.long v2, .long v1, .ref u0] (S, I, L, R) = ((hs_C scr d 168 [.ref u0, .long v1, .long v2] (S, I, L, R)).bind fun o => hs_R scr (d + 1) 165 132 [some (.ref t0), some (.int x1), some (.int x2), some (.int x3), some (.long y4), none, some (.long y6), none, some (.int x8)] (o.1.toList ++ []) o.2) := r_cvE (as := [.long v1, .long v2]) (r := []) d165_129 c165_364 ow168 o_u0.2.1 np168.symm rfl (hs_fitE mL168 (Nat.le_of_ble_eq_true rfl))
theorem b165_132 {t0 : Nat} {x1 x2 x3 x8 s0 : Int32} {y4 y6 : Int64}  : hs_R scr d 165 132 [some (.ref t0), some (.int x1), some (.int x2), some (.int x3), some (.long y4), none, some (.long y6), none, some (.int x8)] [.int s0] (S, I, L, R) = (if s0 = 0 ∨ s0 = 1 then some (some (.int s0), (S, I, L, R)) else none) := r_rz d165_132 rt165
theorem e167 {x0 : Int32} {x1 : Int32} : hs_C scr d 167 [.int x0, .int x1] h = hs_R scr d 167 0 [some (.int x0), some (.int x1), none, none, none] [] h := by rw [hs_C, mL167]; rfl
theorem b167_0 {x0 x1 : Int32}  : hs_R scr d 167 0 [some (.int x0), some (.int x1), none, none, none] [] (S, I, L, R) = hs_R scr d 167 5 [some (.int x0), some (.int x1), some (.long 1), none, some (.int 0)] [] (S, I, L, R) := Eq.trans (r_lc d167_0 kL_1) (Eq.trans (r_ls_n (loc' := [some (.int x0), some (.int x1), some (.long 1), none, none]) d167_1 rfl) (Eq.trans (r_ic d167_2 kI_0) (Eq.trans (r_is (loc' := [some (.int x0), some (.int x1), some (.long 1), none, some (.int 0)]) d167_3 rfl) (rfl))))
theorem b167_5 {x0 x1 x4 : Int32} {y2 : Int64}  : hs_R scr d 167 5 [some (.int x0), some (.int x1), some (.long y2), none, some (.int x4)] [] (S, I, L, R) = (if x1 ≤ x4 then some (some (.long y2), (S, I, L, R)) else hs_R scr d 167 5 [some (.int x0), some (.int x1), some (.long (y2 * (Int32.toInt64 x0))), none, some (.int (x4 + 1))] [] (S, I, L, R)) := Eq.trans (r_il d167_5 rfl) (Eq.trans (r_il_n d167_7 rfl) (Eq.trans (r_cge d167_8 rfl) (q_ite (Eq.trans (r_ll_n d167_22 rfl) (r_rl d167_23 rt167)) (Eq.trans (r_ll_n d167_11 rfl) (Eq.trans (r_il_n d167_12 rfl) (Eq.trans (r_i2l d167_13) (Eq.trans (r_lmul d167_14) (Eq.trans (r_ls_n (loc' := [some (.int x0), some (.int x1), some (.long (y2 * (Int32.toInt64 x0))), none, some (.int x4)]) d167_15 rfl) (Eq.trans (r_inc (loc' := [some (.int x0), some (.int x1), some (.long (y2 * (Int32.toInt64 x0))), none, some (.int (x4 + 1))]) d167_16 kI_1 rfl rfl) (Eq.trans (r_goto d167_19 rfl) (rfl)))))))))))
theorem e168 {t0 : Nat} {y1 : Int64} {y3 : Int64} : hs_C scr d 168 [.ref t0, .long y1, .long y3] h = hs_R scr d 168 0 [some (.ref t0), some (.long y1), none, some (.long y3), none, none, none] [] h := by rw [hs_C, mL168]; rfl
theorem b168_0 {t0 : Nat} {y1 y3 : Int64}  : hs_R scr (d + 1) 168 0 [some (.ref t0), some (.long y1), none, some (.long y3), none, none, none] [] (S, I, L, R) = ((hs_C scr d 169 [.long y1, .long y3] (S, I, L, R)).bind fun o => hs_R scr (d + 1) 168 5 [some (.ref t0), some (.long y1), none, some (.long y3), none, none, none] (o.1.toList ++ []) o.2) := Eq.trans (r_ll_n d168_0 rfl) (Eq.trans (r_ll_n d168_1 rfl) (r_cs (as := [.long y1, .long y3]) (r := []) d168_2 c168_395 np169.symm rfl (hs_fitE mL169 (Nat.le_of_ble_eq_true rfl))))
theorem b168_5 {t0 : Nat} {y1 y3 v0 : Int64} (o_t0 : ok10 S R t0) : hs_R scr d 168 5 [some (.ref t0), some (.long y1), none, some (.long y3), none, none, none] [.long v0] (S, I, L, R) = (if (lg_cmp v0 0) ≤ 0 then hs_R scr d 168 30 [some (.ref t0), some (.long y1), none, some (.long y3), none, some (.long v0), none] [] (S, I, L, R) else (if v0 = 0 then none else (if v0 = 0 then none else hs_R scr d 168 30 [some (.ref t0), some (.long y1), none, some (.long y3), none, some (.long v0), none] [] (S, I, (hs_u (hs_u L t0 17 (y1 / v0)) t0 18 (y3 / v0)), R)))) := Eq.trans (r_ls (loc' := [some (.ref t0), some (.long y1), none, some (.long y3), none, some (.long v0), none]) d168_5 rfl) (Eq.trans (r_ll d168_7 rfl) (Eq.trans (r_lc d168_9 kL_0) (Eq.trans (r_lcmp d168_10) (Eq.trans (r_zle d168_11 rfl) (q_ite (rfl) (Eq.trans (r_al_n d168_14 rfl) (Eq.trans (r_ll_n d168_15 rfl) (Eq.trans (r_ll d168_16 rfl) (Eq.trans (r_ldiv d168_18) (q_ite rfl (Eq.trans (r_putL d168_19 f168_94 o_t0.2.1) (Eq.trans (r_al_n d168_22 rfl) (Eq.trans (r_ll_n d168_23 rfl) (Eq.trans (r_ll d168_24 rfl) (Eq.trans (r_ldiv d168_26) (q_ite rfl (Eq.trans (r_putL d168_27 f168_85 o_t0.2.1) (rfl))))))))))))))))))
theorem b168_30 {t0 : Nat} {y1 y3 y5 : Int64} (o_t0 : ok10 S R t0) : hs_R scr (d + 1) 168 30 [some (.ref t0), some (.long y1), none, some (.long y3), none, some (.long y5), none] [] (S, I, L, R) = ((hs_C scr d 20 [.ref t0] (S, I, L, R)).bind fun o => hs_R scr (d + 1) 168 34 [some (.ref t0), some (.long y1), none, some (.long y3), none, some (.long y5), none] (o.1.toList ++ []) o.2) := Eq.trans (r_al_n d168_30 rfl) (r_cvE (as := []) (r := []) d168_31 c168_108 ow20 o_t0.2.1 np20.symm rfl (hs_fitE mL20 (Nat.le_of_ble_eq_true rfl)))
theorem b168_34 {t0 : Nat} {y1 y3 y5 : Int64} {s0 : Int32}  : hs_R scr d 168 34 [some (.ref t0), some (.long y1), none, some (.long y3), none, some (.long y5), none] [.int s0] (S, I, L, R) = (if s0 = 0 ∨ s0 = 1 then some (some (.int s0), (S, I, L, R)) else none) := r_rz d168_34 rt168
theorem e169 {y0 : Int64} {y2 : Int64} : hs_C scr d 169 [.long y0, .long y2] h = hs_R scr d 169 0 [some (.long y0), none, some (.long y2), none, none, none, none, none, none, none, none] [] h := by rw [hs_C, mL169]; rfl
theorem b169_0 {y0 y2 : Int64}  : hs_R scr d 169 0 [some (.long y0), none, some (.long y2), none, none, none, none, none, none, none, none] [] (S, I, L, R) = hs_R scr d 169 9 [some (.long y0), none, some (.long y2), none, some (.long y0), none, some (.long y2), none, some (.int 0), none, none] [] (S, I, L, R) := Eq.trans (r_ll_n d169_0 rfl) (Eq.trans (r_ls (loc' := [some (.long y0), none, some (.long y2), none, some (.long y0), none, none, none, none, none, none]) d169_1 rfl) (Eq.trans (r_ll_n d169_3 rfl) (Eq.trans (r_ls (loc' := [some (.long y0), none, some (.long y2), none, some (.long y0), none, some (.long y2), none, none, none, none]) d169_4 rfl) (Eq.trans (r_ic d169_6 kI_0) (Eq.trans (r_is (loc' := [some (.long y0), none, some (.long y2), none, some (.long y0), none, some (.long y2), none, some (.int 0), none, none]) d169_7 rfl) (rfl))))))
theorem b169_9 {y0 y2 y4 y6 : Int64} {x8 : Int32} {w9 : Option Value}  : hs_R scr d 169 9 [some (.long y0), none, some (.long y2), none, some (.long y4), none, some (.long y6), none, some (.int x8), w9, none] [] (S, I, L, R) = (if (200 : Int32) ≤ x8 then hs_R scr d 169 45 [some (.long y0), none, some (.long y2), none, some (.long y4), none, some (.long y6), none, some (.int x8), w9, none] [] (S, I, L, R) else (if (lg_cmp y6 0) = 0 then hs_R scr d 169 45 [some (.long y0), none, some (.long y2), none, some (.long y4), none, some (.long y6), none, some (.int x8), w9, none] [] (S, I, L, R) else (if y6 = 0 then none else hs_R scr d 169 9 [some (.long y0), none, some (.long y2), none, some (.long y6), none, some (.long (y4 - y4 / y6 * y6)), none, some (.int (x8 + 1)), some (.long (y4 - y4 / y6 * y6)), none] [] (S, I, L, R)))) := Eq.trans (r_il d169_9 rfl) (Eq.trans (r_sp d169_11 kS_200) (Eq.trans (r_cge d169_14 rfl) (q_ite (rfl) (Eq.trans (r_ll d169_17 rfl) (Eq.trans (r_lc d169_19 kL_0) (Eq.trans (r_lcmp d169_20) (Eq.trans (r_zeq d169_21 rfl) (q_ite (rfl) (Eq.trans (r_ll d169_24 rfl) (Eq.trans (r_ll d169_26 rfl) (Eq.trans (r_lrem d169_28) (q_ite rfl (Eq.trans (r_ls (loc' := [some (.long y0), none, some (.long y2), none, some (.long y4), none, some (.long y6), none, some (.int x8), some (.long (y4 - y4 / y6 * y6)), none]) d169_29 rfl) (Eq.trans (r_ll d169_31 rfl) (Eq.trans (r_ls (loc' := [some (.long y0), none, some (.long y2), none, some (.long y6), none, some (.long y6), none, some (.int x8), some (.long (y4 - y4 / y6 * y6)), none]) d169_33 rfl) (Eq.trans (r_ll d169_35 rfl) (Eq.trans (r_ls (loc' := [some (.long y0), none, some (.long y2), none, some (.long y6), none, some (.long (y4 - y4 / y6 * y6)), none, some (.int x8), some (.long (y4 - y4 / y6 * y6)), none]) d169_37 rfl) (Eq.trans (r_inc (loc' := [some (.long y0), none, some (.long y2), none, some (.long y6), none, some (.long (y4 - y4 / y6 * y6)), none, some (.int (x8 + 1)), some (.long (y4 - y4 / y6 * y6)), none]) d169_39 kI_1 rfl rfl) (Eq.trans (r_goto d169_42 rfl) (rfl))))))))))))))))))))
theorem b169_45 {y0 y2 y4 y6 : Int64} {x8 : Int32} {w9 : Option Value}  : hs_R scr d 169 45 [some (.long y0), none, some (.long y2), none, some (.long y4), none, some (.long y6), none, some (.int x8), w9, none] [] (S, I, L, R) = some (some (.long y4), (S, I, L, R)) := Eq.trans (r_ll d169_45 rfl) (r_rl d169_47 rt169)
theorem e170 {t0 : Nat} {x1 : Int32} : hs_C scr d 170 [.ref t0, .int x1] h = hs_R scr d 170 0 [some (.ref t0), some (.int x1)] [] h := by rw [hs_C, mL170]; rfl
theorem b170_0 {t0 : Nat} {x1 : Int32} (o_t0 : ok10 S R t0) : hs_R scr (d + 1) 170 0 [some (.ref t0), some (.int x1)] [] (S, I, L, R) = ((hs_C scr d 91 [.ref t0, .int x1] (S, I, L, R)).bind fun o => hs_R scr (d + 1) 170 5 [some (.ref t0), some (.int x1)] (o.1.toList ++ []) o.2) := Eq.trans (r_al_n d170_0 rfl) (Eq.trans (r_il_n d170_1 rfl) (r_cvE (as := [.int x1]) (r := []) d170_2 c170_214 ow91 o_t0.2.1 np91.symm rfl (hs_fitE mL91 (Nat.le_of_ble_eq_true rfl))))
theorem b170_5 {t0 t0_8 : Nat} {x1 s0 : Int32} (o_t0 : ok10 S R t0) (e_t0_8 : R t0 8 = t0_8) (o_t0_8 : ok4 S R t0_8) : hs_R scr (d + 1) 170 5 [some (.ref t0), some (.int x1)] [.int s0] (S, I, L, R) = (if s0 = 0 then ((hs_C scr d 18 [.ref t0, .int 2] (S, I, L, R)).bind fun o => hs_R scr (d + 1) 170 13 [some (.ref t0), some (.int x1)] (o.1.toList ++ []) o.2) else (if hs_ib x1 5 = true then ((hs_C scr d 87 [.ref t0_8] (S, I, L, R)).bind fun o => hs_R scr (d + 1) 170 32 [some (.ref t0), some (.int x1)] (o.1.toList ++ [.long (Int32.toInt64 (I (t0_8 + 10) (Int32.toNatClampNeg x1))), .ref t0]) o.2) else none)) := Eq.trans (r_zne d170_5 rfl) (q_ite (Eq.trans (r_al_n d170_8 rfl) (Eq.trans (r_ic d170_9 kI_2) (r_cvE (as := [.int 2]) (r := []) d170_10 c170_101 ow18 o_t0.2.1 np18.symm rfl (hs_fitE mL18 (Nat.le_of_ble_eq_true rfl))))) (Eq.trans (r_al_n d170_14 rfl) (Eq.trans (r_al_n d170_15 rfl) (Eq.trans (r_getRe d170_16 f170_60 o_t0.2.1 e_t0_8 o_t0_8.1) (Eq.trans (r_getRe d170_19 f170_217 o_t0_8.2.1 (o_t0_8.2.2.2.2.2.2.1) (Nat.le_trans o_t0_8.1 (Nat.le_add_right _ _))) (Eq.trans (r_il_n d170_22 rfl) (Eq.trans (r_iald d170_23 (o_t0_8.2.2.2.2.2.2.2.1)) (q_ite (Eq.trans (r_i2l d170_24) (Eq.trans (r_al_n d170_25 rfl) (Eq.trans (r_getRe d170_26 f170_60 o_t0.2.1 e_t0_8 o_t0_8.1) (r_cvE (as := []) (r := [.long (Int32.toInt64 (I (t0_8 + 10) (Int32.toNatClampNeg x1))), .ref t0]) d170_29 c170_368 ow87 o_t0_8.2.1 np87.symm rfl (hs_fitE mL87 (Nat.le_of_ble_eq_true rfl)))))) rfl))))))))
theorem b170_13 {t0 : Nat} {x1 s0 : Int32}  : hs_R scr d 170 13 [some (.ref t0), some (.int x1)] [.int s0] (S, I, L, R) = (if s0 = 0 ∨ s0 = 1 then some (some (.int s0), (S, I, L, R)) else none) := r_rz d170_13 rt170
theorem b170_32 {t0 u0 : Nat} {x1 s2 : Int32} {v1 : Int64} (o_u0 : ok10 S R u0) : hs_R scr (d + 1) 170 32 [some (.ref t0), some (.int x1)] [.int s2, .long v1, .ref u0] (S, I, L, R) = ((hs_C scr d 168 [.ref u0, .long v1, .long (Int32.toInt64 s2)] (S, I, L, R)).bind fun o => hs_R scr (d + 1) 170 36 [some (.ref t0), some (.int x1)] (o.1.toList ++ []) o.2) := Eq.trans (r_i2l d170_32) (r_cvE (as := [.long v1, .long (Int32.toInt64 s2)]) (r := []) d170_33 c170_364 ow168 o_u0.2.1 np168.symm rfl (hs_fitE mL168 (Nat.le_of_ble_eq_true rfl)))
theorem b170_36 {t0 : Nat} {x1 s0 : Int32}  : hs_R scr d 170 36 [some (.ref t0), some (.int x1)] [.int s0] (S, I, L, R) = (if s0 = 0 ∨ s0 = 1 then some (some (.int s0), (S, I, L, R)) else none) := r_rz d170_36 rt170
theorem e171 {t0 : Nat} {x1 : Int32} : hs_C scr d 171 [.ref t0, .int x1] h = hs_R scr d 171 0 [some (.ref t0), some (.int x1)] [] h := by rw [hs_C, mL171]; rfl
theorem b171_0 {t0 t0_10 t0_8 : Nat} {x1 : Int32} (o_t0 : ok10 S R t0) (e_t0_10 : R t0 10 = t0_10) (o_t0_10 : ok5 S R t0_10) (e_t0_8 : R t0 8 = t0_8) (o_t0_8 : ok4 S R t0_8) : hs_R scr (d + 1) 171 0 [some (.ref t0), some (.int x1)] [] (S, I, L, R) = (if x1 < 0 then hs_R scr (d + 1) 171 11 [some (.ref t0), some (.int x1)] [] (S, I, L, R) else (if x1 ≤ 9999 then (if (I t0_10 7) = 0 then ((hs_C scr d 28 [.ref t0, .int 8] (S, I, L, R)).bind fun o => hs_R scr (d + 1) 171 33 [some (.ref t0), some (.int x1)] (o.1.toList ++ []) o.2) else ((hs_C scr d 172 [.ref (t0 + 60), .ref t0_10, .ref t0_8, .int x1] (S, I, L, R)).bind fun o => hs_R scr (d + 1) 171 50 [some (.ref t0), some (.int x1)] (o.1.toList ++ []) o.2)) else hs_R scr (d + 1) 171 11 [some (.ref t0), some (.int x1)] [] (S, I, L, R))) := Eq.trans (r_il_n d171_0 rfl) (Eq.trans (r_zlt d171_1 rfl) (q_ite (rfl) (Eq.trans (r_il_n d171_4 rfl) (Eq.trans (r_sp d171_5 kS_9999) (Eq.trans (r_cle d171_8 rfl) (q_ite (Eq.trans (r_al_n d171_17 rfl) (Eq.trans (r_getRe d171_18 f171_68 o_t0.2.1 e_t0_10 o_t0_10.1) (Eq.trans (r_getZ d171_21 f171_371 o_t0_10.2.1) (Eq.trans (r_zne d171_24 rfl) (q_ite (Eq.trans (r_al_n d171_27 rfl) (Eq.trans (r_bp d171_28 kB_8) (r_cvE (as := [.int 8]) (r := []) d171_30 c171_120 ow28 o_t0.2.1 np28.symm rfl (hs_fitE mL28 (Nat.le_of_ble_eq_true rfl))))) (Eq.trans (r_al_n d171_34 rfl) (Eq.trans (r_getRe d171_35 f171_78 o_t0.2.1 (o_t0.2.2.2.2.2.2.2.2.2.2.2.2.2.2.2.2.2.2.1) (Nat.le_trans o_t0.1 (Nat.le_add_right _ _))) (Eq.trans (r_al_n d171_38 rfl) (Eq.trans (r_getRe d171_39 f171_68 o_t0.2.1 e_t0_10 o_t0_10.1) (Eq.trans (r_al_n d171_42 rfl) (Eq.trans (r_getRe d171_43 f171_60 o_t0.2.1 e_t0_8 o_t0_8.1) (Eq.trans (r_il_n d171_46 rfl) (r_cvE (as := [.ref t0_10, .ref t0_8, .int x1]) (r := []) d171_47 c171_374 ow172 (o_t0.2.2.2.2.2.2.2.2.2.2.2.2.2.2.2.2.2.2.2.1).2.1 np172.symm rfl (hs_fitE mL172 (Nat.le_of_ble_eq_true rfl))))))))))))))) (rfl)))))))
theorem b171_11 {t0 : Nat} {x1 : Int32} (o_t0 : ok10 S R t0) : hs_R scr (d + 1) 171 11 [some (.ref t0), some (.int x1)] [] (S, I, L, R) = ((hs_C scr d 28 [.ref t0, .int 5] (S, I, L, R)).bind fun o => hs_R scr (d + 1) 171 16 [some (.ref t0), some (.int x1)] (o.1.toList ++ []) o.2) := Eq.trans (r_al_n d171_11 rfl) (Eq.trans (r_ic d171_12 kI_5) (r_cvE (as := [.int 5]) (r := []) d171_13 c171_120 ow28 o_t0.2.1 np28.symm rfl (hs_fitE mL28 (Nat.le_of_ble_eq_true rfl))))
theorem b171_16 {t0 : Nat} {x1 s0 : Int32}  : hs_R scr d 171 16 [some (.ref t0), some (.int x1)] [.int s0] (S, I, L, R) = some (some (.int s0), (S, I, L, R)) := r_ri d171_16 rt171
theorem b171_33 {t0 : Nat} {x1 s0 : Int32}  : hs_R scr d 171 33 [some (.ref t0), some (.int x1)] [.int s0] (S, I, L, R) = some (some (.int s0), (S, I, L, R)) := r_ri d171_33 rt171
theorem b171_50 {t0 : Nat} {x1 : Int32} (o_t0 : ok10 S R t0) : hs_R scr (d + 1) 171 50 [some (.ref t0), some (.int x1)] [] (S, I, L, R) = ((hs_C scr d 68 [.ref t0, .int ((hs_u I t0 14 1) (t0 + 60) 0)] (S, (hs_u I t0 14 1), L, R)).bind fun o => hs_R scr (d + 1) 171 66 [some (.ref t0), some (.int x1)] (o.1.toList ++ []) o.2) := Eq.trans (r_al_n d171_50 rfl) (Eq.trans (r_ic d171_51 kI_1) (Eq.trans ((r_putZ d171_52 f171_378 o_t0.2.1).trans (if_pos (Or.inr rfl))) (Eq.trans (r_al_n d171_55 rfl) (Eq.trans (r_al_n d171_56 rfl) (Eq.trans (r_getRe d171_57 f171_78 o_t0.2.1 (o_t0.2.2.2.2.2.2.2.2.2.2.2.2.2.2.2.2.2.2.1) (Nat.le_trans o_t0.1 (Nat.le_add_right _ _))) (Eq.trans (r_getI d171_60 f171_381 (o_t0.2.2.2.2.2.2.2.2.2.2.2.2.2.2.2.2.2.2.2.1).2.1) (r_cvE (as := [.int ((hs_u I t0 14 1) (t0 + 60) 0)]) (r := []) d171_63 c171_173 ow68 o_t0.2.1 np68.symm rfl (hs_fitE mL68 (Nat.le_of_ble_eq_true rfl)))))))))
theorem b171_66 {t0 : Nat} {x1 s0 : Int32}  : hs_R scr d 171 66 [some (.ref t0), some (.int x1)] [.int s0] (S, I, L, R) = some (some (.int s0), (S, I, L, R)) := r_ri d171_66 rt171
theorem e182 {t0 : Nat} {x1 : Int32} : hs_C scr d 182 [.ref t0, .int x1] h = hs_R scr d 182 0 [some (.ref t0), some (.int x1)] [] h := by rw [hs_C, mL182]; rfl
theorem b182_0 {t0 : Nat} {x1 : Int32} (o_t0 : ok10 S R t0) : hs_R scr (d + 1) 182 0 [some (.ref t0), some (.int x1)] [] (S, I, L, R) = (if x1 < 0 then hs_R scr (d + 1) 182 9 [some (.ref t0), some (.int x1)] [] (S, I, L, R) else (if x1 ≤ 4 then (if (I t0 14) = 0 then ((hs_C scr d 28 [.ref t0, .int 8] (S, I, L, R)).bind fun o => hs_R scr (d + 1) 182 43 [some (.ref t0), some (.int x1)] (o.1.toList ++ []) o.2) else ((hs_C scr d 183 [.ref (t0 + 60), .int x1] (S, I, L, R)).bind fun o => hs_R scr (d + 1) 182 31 [some (.ref t0), some (.int x1)] (o.1.toList ++ [.ref t0]) o.2)) else hs_R scr (d + 1) 182 9 [some (.ref t0), some (.int x1)] [] (S, I, L, R))) := Eq.trans (r_il_n d182_0 rfl) (Eq.trans (r_zlt d182_1 rfl) (q_ite (rfl) (Eq.trans (r_il_n d182_4 rfl) (Eq.trans (r_ic d182_5 kI_4) (Eq.trans (r_cle d182_6 rfl) (q_ite (Eq.trans (r_al_n d182_15 rfl) (Eq.trans (r_getZ d182_16 f182_378 o_t0.2.1) (Eq.trans (r_zeq d182_19 rfl) (q_ite (Eq.trans (r_al_n d182_37 rfl) (Eq.trans (r_bp d182_38 kB_8) (r_cvE (as := [.int 8]) (r := []) d182_40 c182_120 ow28 o_t0.2.1 np28.symm rfl (hs_fitE mL28 (Nat.le_of_ble_eq_true rfl))))) (Eq.trans (r_al_n d182_22 rfl) (Eq.trans (r_al_n d182_23 rfl) (Eq.trans (r_getRe d182_24 f182_78 o_t0.2.1 (o_t0.2.2.2.2.2.2.2.2.2.2.2.2.2.2.2.2.2.2.1) (Nat.le_trans o_t0.1 (Nat.le_add_right _ _))) (Eq.trans (r_il_n d182_27 rfl) (r_cvE (as := [.int x1]) (r := [.ref t0]) d182_28 c182_382 ow183 (o_t0.2.2.2.2.2.2.2.2.2.2.2.2.2.2.2.2.2.2.2.1).2.1 np183.symm rfl (hs_fitE mL183 (Nat.le_of_ble_eq_true rfl))))))))))) (rfl)))))))
theorem b182_9 {t0 : Nat} {x1 : Int32} (o_t0 : ok10 S R t0) : hs_R scr (d + 1) 182 9 [some (.ref t0), some (.int x1)] [] (S, I, L, R) = ((hs_C scr d 28 [.ref t0, .int 5] (S, I, L, R)).bind fun o => hs_R scr (d + 1) 182 14 [some (.ref t0), some (.int x1)] (o.1.toList ++ []) o.2) := Eq.trans (r_al_n d182_9 rfl) (Eq.trans (r_ic d182_10 kI_5) (r_cvE (as := [.int 5]) (r := []) d182_11 c182_120 ow28 o_t0.2.1 np28.symm rfl (hs_fitE mL28 (Nat.le_of_ble_eq_true rfl))))
theorem b182_14 {t0 : Nat} {x1 s0 : Int32}  : hs_R scr d 182 14 [some (.ref t0), some (.int x1)] [.int s0] (S, I, L, R) = some (some (.int s0), (S, I, L, R)) := r_ri d182_14 rt182
theorem b182_31 {t0 u0 : Nat} {x1 s1 : Int32} (o_u0 : ok10 S R u0) : hs_R scr (d + 1) 182 31 [some (.ref t0), some (.int x1)] [.int s1, .ref u0] (S, I, L, R) = ((hs_C scr d 68 [.ref u0, .int s1] (S, I, L, R)).bind fun o => hs_R scr (d + 1) 182 34 [some (.ref t0), some (.int x1)] (o.1.toList ++ []) o.2) := r_cvE (as := [.int s1]) (r := []) d182_31 c182_173 ow68 o_u0.2.1 np68.symm rfl (hs_fitE mL68 (Nat.le_of_ble_eq_true rfl))
theorem b182_34 {t0 : Nat} {x1 s0 : Int32}  : hs_R scr d 182 34 [some (.ref t0), some (.int x1)] [.int s0] (S, I, L, R) = hs_R scr d 182 43 [some (.ref t0), some (.int x1)] [.int s0] (S, I, L, R) := Eq.trans (r_goto d182_34 rfl) (rfl)
theorem b182_43 {t0 : Nat} {x1 s0 : Int32}  : hs_R scr d 182 43 [some (.ref t0), some (.int x1)] [.int s0] (S, I, L, R) = some (some (.int s0), (S, I, L, R)) := r_ri d182_43 rt182
theorem e184 {t0 : Nat} {x1 : Int32} {x2 : Int32} : hs_C scr d 184 [.ref t0, .int x1, .int x2] h = hs_R scr d 184 0 [some (.ref t0), some (.int x1), some (.int x2), none, none, none] [] h := by rw [hs_C, mL184]; rfl
theorem b184_0 {t0 t0_10 : Nat} {x1 x2 : Int32} (o_t0 : ok10 S R t0) (e_t0_10 : R t0 10 = t0_10) (o_t0_10 : ok5 S R t0_10) : hs_R scr (d + 1) 184 0 [some (.ref t0), some (.int x1), some (.int x2), none, none, none] [] (S, I, L, R) = (if x1 < 0 then hs_R scr (d + 1) 184 26 [some (.ref t0), some (.int x1), some (.int x2), none, none, none] [] (S, I, L, R) else (if x2 < 1 then hs_R scr (d + 1) 184 26 [some (.ref t0), some (.int x1), some (.int x2), none, none, none] [] (S, I, L, R) else (if (20 : Int32) < x2 then hs_R scr (d + 1) 184 26 [some (.ref t0), some (.int x1), some (.int x2), none, none, none] [] (S, I, L, R) else (if x1 ≤ ((9999 : Int32) - (x2 - 1)) then (if (I t0_10 7) = 0 then ((hs_C scr d 18 [.ref t0, .int 8] (S, I, L, R)).bind fun o => hs_R scr (d + 1) 184 48 [some (.ref t0), some (.int x1), some (.int x2), none, none, none] (o.1.toList ++ []) o.2) else hs_R scr (d + 1) 184 54 [some (.ref t0), some (.int x1), some (.int x2), some (.long 0), none, some (.int 0)] [] (S, I, L, R)) else hs_R scr (d + 1) 184 26 [some (.ref t0), some (.int x1), some (.int x2), none, none, none] [] (S, I, L, R))))) := Eq.trans (r_il_n d184_0 rfl) (Eq.trans (r_zlt d184_1 rfl) (q_ite (rfl) (Eq.trans (r_il_n d184_4 rfl) (Eq.trans (r_ic d184_5 kI_1) (Eq.trans (r_clt d184_6 rfl) (q_ite (rfl) (Eq.trans (r_il_n d184_9 rfl) (Eq.trans (r_bp d184_10 kB_20) (Eq.trans (r_cgt d184_12 rfl) (q_ite (rfl) (Eq.trans (r_il_n d184_15 rfl) (Eq.trans (r_sp d184_16 kS_9999) (Eq.trans (r_il_n d184_19 rfl) (Eq.trans (r_ic d184_20 kI_1) (Eq.trans (r_isub d184_21) (Eq.trans (r_isub d184_22) (Eq.trans (r_cle d184_23 rfl) (q_ite (Eq.trans (r_al_n d184_32 rfl) (Eq.trans (r_getRe d184_33 f184_68 o_t0.2.1 e_t0_10 o_t0_10.1) (Eq.trans (r_getZ d184_36 f184_371 o_t0_10.2.1) (Eq.trans (r_zne d184_39 rfl) (q_ite (Eq.trans (r_al_n d184_42 rfl) (Eq.trans (r_bp d184_43 kB_8) (r_cvE (as := [.int 8]) (r := []) d184_45 c184_101 ow18 o_t0.2.1 np18.symm rfl (hs_fitE mL18 (Nat.le_of_ble_eq_true rfl))))) (Eq.trans (r_lc d184_49 kL_0) (Eq.trans (r_ls_n (loc' := [some (.ref t0), some (.int x1), some (.int x2), some (.long 0), none, none]) d184_50 rfl) (Eq.trans (r_ic d184_51 kI_0) (Eq.trans (r_is (loc' := [some (.ref t0), some (.int x1), some (.int x2), some (.long 0), none, some (.int 0)]) d184_52 rfl) (rfl)))))))))) (rfl)))))))))))))))))))
theorem b184_26 {t0 : Nat} {x1 x2 : Int32} (o_t0 : ok10 S R t0) : hs_R scr (d + 1) 184 26 [some (.ref t0), some (.int x1), some (.int x2), none, none, none] [] (S, I, L, R) = ((hs_C scr d 18 [.ref t0, .int 5] (S, I, L, R)).bind fun o => hs_R scr (d + 1) 184 31 [some (.ref t0), some (.int x1), some (.int x2), none, none, none] (o.1.toList ++ []) o.2) := Eq.trans (r_al_n d184_26 rfl) (Eq.trans (r_ic d184_27 kI_5) (r_cvE (as := [.int 5]) (r := []) d184_28 c184_101 ow18 o_t0.2.1 np18.symm rfl (hs_fitE mL18 (Nat.le_of_ble_eq_true rfl))))
theorem b184_31 {t0 : Nat} {x1 x2 s0 : Int32}  : hs_R scr d 184 31 [some (.ref t0), some (.int x1), some (.int x2), none, none, none] [.int s0] (S, I, L, R) = (if s0 = 0 ∨ s0 = 1 then some (some (.int s0), (S, I, L, R)) else none) := r_rz d184_31 rt184
theorem b184_48 {t0 : Nat} {x1 x2 s0 : Int32}  : hs_R scr d 184 48 [some (.ref t0), some (.int x1), some (.int x2), none, none, none] [.int s0] (S, I, L, R) = (if s0 = 0 ∨ s0 = 1 then some (some (.int s0), (S, I, L, R)) else none) := r_rz d184_48 rt184
theorem b184_54 {t0 t0_9 t0_8 : Nat} {x1 x2 x5 : Int32} {y3 : Int64} (o_t0 : ok10 S R t0) (e_t0_9 : R t0 9 = t0_9) (o_t0_9 : ok4 S R t0_9) (e_t0_8 : R t0 8 = t0_8) (o_t0_8 : ok4 S R t0_8) : hs_R scr (d + 1) 184 54 [some (.ref t0), some (.int x1), some (.int x2), some (.long y3), none, some (.int x5)] [] (S, I, L, R) = (if x2 ≤ x5 then ((hs_C scr d 168 [.ref t0, .long y3, .long (Int32.toInt64 x2)] (S, I, L, R)).bind fun o => hs_R scr (d + 1) 184 117 [some (.ref t0), some (.int x1), some (.int x2), some (.long y3), none, some (.int x5)] (o.1.toList ++ []) o.2) else ((hs_C scr d 185 [.ref t0_9, .ref t0_8] (S, I, L, R)).bind fun o => hs_R scr (d + 1) 184 71 [some (.ref t0), some (.int x1), some (.int x2), some (.long y3), none, some (.int x5)] (o.1.toList ++ []) o.2)) := Eq.trans (r_il d184_54 rfl) (Eq.trans (r_il_n d184_56 rfl) (Eq.trans (r_cge d184_57 rfl) (q_ite (Eq.trans (r_al_n d184_110 rfl) (Eq.trans (r_ll_n d184_111 rfl) (Eq.trans (r_il_n d184_112 rfl) (Eq.trans (r_i2l d184_113) (r_cvE (as := [.long y3, .long (Int32.toInt64 x2)]) (r := []) d184_114 c184_364 ow168 o_t0.2.1 np168.symm rfl (hs_fitE mL168 (Nat.le_of_ble_eq_true rfl))))))) (Eq.trans (r_al_n d184_60 rfl) (Eq.trans (r_getRe d184_61 f184_64 o_t0.2.1 e_t0_9 o_t0_9.1) (Eq.trans (r_al_n d184_64 rfl) (Eq.trans (r_getRe d184_65 f184_60 o_t0.2.1 e_t0_8 o_t0_8.1) (r_cvE (as := [.ref t0_8]) (r := []) d184_68 c184_385 ow185 o_t0_9.2.1 np185.symm rfl (hs_fitE mL185 (Nat.le_of_ble_eq_true rfl))))))))))
theorem b184_71 {t0 t0_10 t0_9 : Nat} {x1 x2 x5 : Int32} {y3 : Int64} (o_t0 : ok10 S R t0) (e_t0_10 : R t0 10 = t0_10) (o_t0_10 : ok5 S R t0_10) (e_t0_9 : R t0 9 = t0_9) (o_t0_9 : ok4 S R t0_9) : hs_R scr (d + 1) 184 71 [some (.ref t0), some (.int x1), some (.int x2), some (.long y3), none, some (.int x5)] [] (S, I, L, R) = ((hs_C scr d 172 [.ref (t0 + 62), .ref t0_10, .ref t0_9, .int (x1 + x5)] (S, I, L, R)).bind fun o => hs_R scr (d + 1) 184 90 [some (.ref t0), some (.int x1), some (.int x2), some (.long y3), none, some (.int x5)] (o.1.toList ++ []) o.2) := Eq.trans (r_al_n d184_71 rfl) (Eq.trans (r_getRe d184_72 f184_82 o_t0.2.1 (o_t0.2.2.2.2.2.2.2.2.2.2.2.2.2.2.2.2.2.2.2.2.1) (Nat.le_trans o_t0.1 (Nat.le_add_right _ _))) (Eq.trans (r_al_n d184_75 rfl) (Eq.trans (r_getRe d184_76 f184_68 o_t0.2.1 e_t0_10 o_t0_10.1) (Eq.trans (r_al_n d184_79 rfl) (Eq.trans (r_getRe d184_80 f184_64 o_t0.2.1 e_t0_9 o_t0_9.1) (Eq.trans (r_il_n d184_83 rfl) (Eq.trans (r_il d184_84 rfl) (Eq.trans (r_iadd d184_86) (r_cvE (as := [.ref t0_10, .ref t0_9, .int (x1 + x5)]) (r := []) d184_87 c184_374 ow172 (o_t0.2.2.2.2.2.2.2.2.2.2.2.2.2.2.2.2.2.2.2.2.2.1).2.1 np172.symm rfl (hs_fitE mL172 (Nat.le_of_ble_eq_true rfl)))))))))))
theorem b184_90 {t0 t0_9 : Nat} {x1 x2 x5 : Int32} {y3 : Int64} (o_t0 : ok10 S R t0) (e_t0_9 : R t0 9 = t0_9) (o_t0_9 : ok4 S R t0_9) : hs_R scr (d + 1) 184 90 [some (.ref t0), some (.int x1), some (.int x2), some (.long y3), none, some (.int x5)] [] (S, I, L, R) = ((hs_C scr d 86 [.ref (t0_9 + 5)] (S, I, L, R)).bind fun o => hs_R scr (d + 1) 184 101 [some (.ref t0), some (.int x1), some (.int x2), some (.long y3), none, some (.int x5)] (o.1.toList ++ [.long y3]) o.2) := Eq.trans (r_ll_n d184_90 rfl) (Eq.trans (r_al_n d184_91 rfl) (Eq.trans (r_getRe d184_92 f184_64 o_t0.2.1 e_t0_9 o_t0_9.1) (Eq.trans (r_getRe d184_95 f184_164 o_t0_9.2.1 (o_t0_9.2.2.2.2.1) (Nat.le_trans o_t0_9.1 (Nat.le_add_right _ _))) (r_cvE (as := []) (r := [.long y3]) d184_98 c184_250 ow86 (o_t0_9.2.2.2.2.2.1).2.1 np86.symm rfl (hs_fitE mL86 (Nat.le_of_ble_eq_true rfl))))))
theorem b184_101 {t0 : Nat} {x1 x2 x5 s1 : Int32} {y3 v0 : Int64}  : hs_R scr d 184 101 [some (.ref t0), some (.int x1), some (.int x2), some (.long y3), none, some (.int x5)] [.int s1, .long v0] (S, I, L, R) = hs_R scr d 184 54 [some (.ref t0), some (.int x1), some (.int x2), some (.long (v0 + (Int32.toInt64 s1))), none, some (.int (x5 + 1))] [] (S, I, L, R) := Eq.trans (r_i2l d184_101) (Eq.trans (r_ladd d184_102) (Eq.trans (r_ls_n (loc' := [some (.ref t0), some (.int x1), some (.int x2), some (.long (v0 + (Int32.toInt64 s1))), none, some (.int x5)]) d184_103 rfl) (Eq.trans (r_inc (loc' := [some (.ref t0), some (.int x1), some (.int x2), some (.long (v0 + (Int32.toInt64 s1))), none, some (.int (x5 + 1))]) d184_104 kI_1 rfl rfl) (Eq.trans (r_goto d184_107 rfl) (rfl)))))
theorem b184_117 {t0 : Nat} {x1 x2 x5 s0 : Int32} {y3 : Int64}  : hs_R scr d 184 117 [some (.ref t0), some (.int x1), some (.int x2), some (.long y3), none, some (.int x5)] [.int s0] (S, I, L, R) = (if s0 = 0 ∨ s0 = 1 then some (some (.int s0), (S, I, L, R)) else none) := r_rz d184_117 rt184
theorem e188 {t0 : Nat} : hs_C scr d 188 [.ref t0] h = hs_R scr d 188 0 [some (.ref t0)] [] h := by rw [hs_C, mL188]; rfl
theorem b188_0 {t0 : Nat} (o_t0 : ok10 S R t0) : hs_R scr (d + 1) 188 0 [some (.ref t0)] [] (S, I, L, R) = (if (I t0 15) < 3 then (if hs_ib (I t0 15) 3 = true ∧ 2 ≤ (R (t0 + 11) (Int32.toNatClampNeg (I t0 15))) then hs_R scr (d + 1) 188 24 [some (.ref t0)] [.ref (R (t0 + 11) (Int32.toNatClampNeg (I t0 15)))] (S, I, L, R) else none) else ((hs_C scr d 28 [.ref t0, .int 7] (S, I, L, R)).bind fun o => hs_R scr (d + 1) 188 14 [some (.ref t0)] (o.1.toList ++ []) o.2)) := Eq.trans (r_al_n d188_0 rfl) (Eq.trans (r_getI d188_1 f188_389 o_t0.2.1) (Eq.trans (r_ic d188_4 kI_3) (Eq.trans (r_clt d188_5 rfl) (q_ite (Eq.trans (r_al_n d188_15 rfl) (Eq.trans (r_getRe d188_16 f188_38 o_t0.2.1 (o_t0.2.2.2.2.2.2.2.2.2.2.1) (Nat.le_trans o_t0.1 (Nat.le_add_right _ _))) (Eq.trans (r_al_n d188_19 rfl) (Eq.trans (r_getI d188_20 f188_389 o_t0.2.1) (Eq.trans (r_aald d188_23 (o_t0.2.2.2.2.2.2.2.2.2.2.2.1) (by decide)) (q_ite (rfl) rfl)))))) (Eq.trans (r_al_n d188_8 rfl) (Eq.trans (r_bp d188_9 kB_7) (r_cvE (as := [.int 7]) (r := []) d188_11 c188_120 ow28 o_t0.2.1 np28.symm rfl (hs_fitE mL28 (Nat.le_of_ble_eq_true rfl)))))))))
theorem b188_14 {t0 : Nat} {s0 : Int32}  : hs_R scr d 188 14 [some (.ref t0)] [.int s0] (S, I, L, R) = some (some (.int s0), (S, I, L, R)) := r_ri d188_14 rt188
theorem b188_24 {t0 u0 t0_8 : Nat} (o_t0 : ok10 S R t0) (e_t0_8 : R t0 8 = t0_8) (o_t0_8 : ok4 S R t0_8) (o_u0 : ok4 S R u0) : hs_R scr (d + 1) 188 24 [some (.ref t0)] [.ref u0] (S, I, L, R) = ((hs_C scr d 185 [.ref u0, .ref t0_8] (S, I, L, R)).bind fun o => hs_R scr (d + 1) 188 31 [some (.ref t0)] (o.1.toList ++ []) o.2) := Eq.trans (r_al_n d188_24 rfl) (Eq.trans (r_getRe d188_25 f188_60 o_t0.2.1 e_t0_8 o_t0_8.1) (r_cvE (as := [.ref t0_8]) (r := []) d188_28 c188_385 ow185 o_u0.2.1 np185.symm rfl (hs_fitE mL185 (Nat.le_of_ble_eq_true rfl))))
theorem b188_31 {t0 : Nat} (o_t0 : ok10 S R t0) : hs_R scr d 188 31 [some (.ref t0)] [] (S, I, L, R) = (if hs_ib (I t0 15) 3 = true ∧ 2 ≤ (R (t0 + 12) (Int32.toNatClampNeg (I t0 15))) then hs_R scr d 188 40 [some (.ref t0)] [.ref (R (t0 + 12) (Int32.toNatClampNeg (I t0 15)))] (S, I, L, R) else none) := Eq.trans (r_al_n d188_31 rfl) (Eq.trans (r_getRe d188_32 f188_44 o_t0.2.1 (o_t0.2.2.2.2.2.2.2.2.2.2.2.2.1) (Nat.le_trans o_t0.1 (Nat.le_add_right _ _))) (Eq.trans (r_al_n d188_35 rfl) (Eq.trans (r_getI d188_36 f188_389 o_t0.2.1) (Eq.trans (r_aald d188_39 (o_t0.2.2.2.2.2.2.2.2.2.2.2.2.2.1) (by decide)) (q_ite (rfl) rfl)))))
theorem b188_40 {t0 u0 t0_10 : Nat} (o_t0 : ok10 S R t0) (e_t0_10 : R t0 10 = t0_10) (o_t0_10 : ok5 S R t0_10) (o_u0 : ok5 S R u0) : hs_R scr (d + 1) 188 40 [some (.ref t0)] [.ref u0] (S, I, L, R) = ((hs_C scr d 189 [.ref u0, .ref t0_10] (S, I, L, R)).bind fun o => hs_R scr (d + 1) 188 47 [some (.ref t0)] (o.1.toList ++ []) o.2) := Eq.trans (r_al_n d188_40 rfl) (Eq.trans (r_getRe d188_41 f188_68 o_t0.2.1 e_t0_10 o_t0_10.1) (r_cvE (as := [.ref t0_10]) (r := []) d188_44 c188_392 ow189 o_u0.2.1 np189.symm rfl (hs_fitE mL189 (Nat.le_of_ble_eq_true rfl))))
theorem b188_47 {t0 : Nat} (o_t0 : ok10 S R t0) : hs_R scr (d + 1) 188 47 [some (.ref t0)] [] (S, I, L, R) = ((hs_C scr d 68 [.ref t0, .int ((hs_u I t0 15 ((I t0 15) + 1)) t0 15)] (S, (hs_u I t0 15 ((I t0 15) + 1)), L, R)).bind fun o => hs_R scr (d + 1) 188 65 [some (.ref t0)] (o.1.toList ++ []) o.2) := Eq.trans (r_al_n d188_47 rfl) (Eq.trans (r_dup d188_48 rfl) (Eq.trans (r_getI d188_49 f188_389 o_t0.2.1) (Eq.trans (r_ic d188_52 kI_1) (Eq.trans (r_iadd d188_53) (Eq.trans (r_putI d188_54 f188_389 o_t0.2.1) (Eq.trans (r_al_n d188_57 rfl) (Eq.trans (r_al_n d188_58 rfl) (Eq.trans (r_getI d188_59 f188_389 o_t0.2.1) (r_cvE (as := [.int ((hs_u I t0 15 ((I t0 15) + 1)) t0 15)]) (r := []) d188_62 c188_173 ow68 o_t0.2.1 np68.symm rfl (hs_fitE mL68 (Nat.le_of_ble_eq_true rfl)))))))))))
theorem b188_65 {t0 : Nat} {s0 : Int32}  : hs_R scr d 188 65 [some (.ref t0)] [.int s0] (S, I, L, R) = some (some (.int s0), (S, I, L, R)) := r_ri d188_65 rt188
theorem e190 {t0 : Nat} : hs_C scr d 190 [.ref t0] h = hs_R scr d 190 0 [some (.ref t0)] [] h := by rw [hs_C, mL190]; rfl
theorem b190_0 {t0 t0_8 : Nat} (o_t0 : ok10 S R t0) (e_t0_8 : R t0 8 = t0_8) (o_t0_8 : ok4 S R t0_8) : hs_R scr (d + 1) 190 0 [some (.ref t0)] [] (S, I, L, R) = (if (0 : Int32) < (I t0 15) then (if hs_ib ((hs_u I t0 15 ((I t0 15) - 1)) t0 15) 3 = true ∧ 2 ≤ (R (t0 + 11) (Int32.toNatClampNeg ((hs_u I t0 15 ((I t0 15) - 1)) t0 15))) then hs_R scr (d + 1) 190 37 [some (.ref t0)] [.ref (R (t0 + 11) (Int32.toNatClampNeg ((hs_u I t0 15 ((I t0 15) - 1)) t0 15))), .ref t0_8] (S, (hs_u I t0 15 ((I t0 15) - 1)), L, R) else none) else ((hs_C scr d 28 [.ref t0, .int 8] (S, I, L, R)).bind fun o => hs_R scr (d + 1) 190 13 [some (.ref t0)] (o.1.toList ++ []) o.2)) := Eq.trans (r_al_n d190_0 rfl) (Eq.trans (r_getI d190_1 f190_389 o_t0.2.1) (Eq.trans (r_zgt d190_4 rfl) (q_ite (Eq.trans (r_al_n d190_14 rfl) (Eq.trans (r_dup d190_15 rfl) (Eq.trans (r_getI d190_16 f190_389 o_t0.2.1) (Eq.trans (r_ic d190_19 kI_1) (Eq.trans (r_isub d190_20) (Eq.trans (r_putI d190_21 f190_389 o_t0.2.1) (Eq.trans (r_al_n d190_24 rfl) (Eq.trans (r_getRe d190_25 f190_60 o_t0.2.1 e_t0_8 o_t0_8.1) (Eq.trans (r_al_n d190_28 rfl) (Eq.trans (r_getRe d190_29 f190_38 o_t0.2.1 (o_t0.2.2.2.2.2.2.2.2.2.2.1) (Nat.le_trans o_t0.1 (Nat.le_add_right _ _))) (Eq.trans (r_al_n d190_32 rfl) (Eq.trans (r_getI d190_33 f190_389 o_t0.2.1) (Eq.trans (r_aald d190_36 (o_t0.2.2.2.2.2.2.2.2.2.2.2.1) (by decide)) (q_ite (rfl) rfl)))))))))))))) (Eq.trans (r_al_n d190_7 rfl) (Eq.trans (r_bp d190_8 kB_8) (r_cvE (as := [.int 8]) (r := []) d190_10 c190_120 ow28 o_t0.2.1 np28.symm rfl (hs_fitE mL28 (Nat.le_of_ble_eq_true rfl))))))))
theorem b190_13 {t0 : Nat} {s0 : Int32}  : hs_R scr d 190 13 [some (.ref t0)] [.int s0] (S, I, L, R) = some (some (.int s0), (S, I, L, R)) := r_ri d190_13 rt190
theorem b190_37 {t0 u0 u1 : Nat} (o_u0 : ok4 S R u0) : hs_R scr (d + 1) 190 37 [some (.ref t0)] [.ref u1, .ref u0] (S, I, L, R) = ((hs_C scr d 185 [.ref u0, .ref u1] (S, I, L, R)).bind fun o => hs_R scr (d + 1) 190 40 [some (.ref t0)] (o.1.toList ++ []) o.2) := r_cvE (as := [.ref u1]) (r := []) d190_37 c190_385 ow185 o_u0.2.1 np185.symm rfl (hs_fitE mL185 (Nat.le_of_ble_eq_true rfl))
theorem b190_40 {t0 t0_10 : Nat} (o_t0 : ok10 S R t0) (e_t0_10 : R t0 10 = t0_10) (o_t0_10 : ok5 S R t0_10) : hs_R scr d 190 40 [some (.ref t0)] [] (S, I, L, R) = (if hs_ib (I t0 15) 3 = true ∧ 2 ≤ (R (t0 + 12) (Int32.toNatClampNeg (I t0 15))) then hs_R scr d 190 53 [some (.ref t0)] [.ref (R (t0 + 12) (Int32.toNatClampNeg (I t0 15))), .ref t0_10] (S, I, L, R) else none) := Eq.trans (r_al_n d190_40 rfl) (Eq.trans (r_getRe d190_41 f190_68 o_t0.2.1 e_t0_10 o_t0_10.1) (Eq.trans (r_al_n d190_44 rfl) (Eq.trans (r_getRe d190_45 f190_44 o_t0.2.1 (o_t0.2.2.2.2.2.2.2.2.2.2.2.2.1) (Nat.le_trans o_t0.1 (Nat.le_add_right _ _))) (Eq.trans (r_al_n d190_48 rfl) (Eq.trans (r_getI d190_49 f190_389 o_t0.2.1) (Eq.trans (r_aald d190_52 (o_t0.2.2.2.2.2.2.2.2.2.2.2.2.2.1) (by decide)) (q_ite (rfl) rfl)))))))
theorem b190_53 {t0 u0 u1 : Nat} (o_u0 : ok5 S R u0) : hs_R scr (d + 1) 190 53 [some (.ref t0)] [.ref u1, .ref u0] (S, I, L, R) = ((hs_C scr d 189 [.ref u0, .ref u1] (S, I, L, R)).bind fun o => hs_R scr (d + 1) 190 56 [some (.ref t0)] (o.1.toList ++ []) o.2) := r_cvE (as := [.ref u1]) (r := []) d190_53 c190_392 ow189 o_u0.2.1 np189.symm rfl (hs_fitE mL189 (Nat.le_of_ble_eq_true rfl))
theorem b190_56 {t0 : Nat} (o_t0 : ok10 S R t0) : hs_R scr (d + 1) 190 56 [some (.ref t0)] [] (S, I, L, R) = ((hs_C scr d 68 [.ref t0, .int (I t0 15)] (S, I, L, R)).bind fun o => hs_R scr (d + 1) 190 64 [some (.ref t0)] (o.1.toList ++ []) o.2) := Eq.trans (r_al_n d190_56 rfl) (Eq.trans (r_al_n d190_57 rfl) (Eq.trans (r_getI d190_58 f190_389 o_t0.2.1) (r_cvE (as := [.int (I t0 15)]) (r := []) d190_61 c190_173 ow68 o_t0.2.1 np68.symm rfl (hs_fitE mL68 (Nat.le_of_ble_eq_true rfl)))))
theorem b190_64 {t0 : Nat} {s0 : Int32}  : hs_R scr d 190 64 [some (.ref t0)] [.int s0] (S, I, L, R) = some (some (.int s0), (S, I, L, R)) := r_ri d190_64 rt190
end BB

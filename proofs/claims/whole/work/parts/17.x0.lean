/-! blocks: written by gen/mkblocks.py -/
theorem c25_22 : hs_cal (hs_own 25) 22 = some (0, 24) := by decide +kernel
theorem c25_26 : hs_cal (hs_own 25) 26 = some (0, 26) := by decide +kernel
theorem c35_60 : hs_cal (hs_own 35) 60 = some (7, 0) := by decide +kernel
theorem c35_72 : hs_cal (hs_own 35) 72 = some (1, 36) := by decide +kernel
theorem c35_76 : hs_cal (hs_own 35) 76 = some (0, 37) := by decide +kernel
theorem c35_79 : hs_cal (hs_own 35) 79 = some (1, 40) := by decide +kernel
theorem c35_82 : hs_cal (hs_own 35) 82 = some (0, 41) := by decide +kernel
theorem c35_85 : hs_cal (hs_own 35) 85 = some (1, 42) := by decide +kernel
theorem c35_89 : hs_cal (hs_own 35) 89 = some (0, 39) := by decide +kernel
theorem c37_51 : hs_cal (hs_own 37) 51 = some (1, 2) := by decide +kernel
theorem c37_72 : hs_cal (hs_own 37) 72 = some (1, 36) := by decide +kernel
theorem c37_89 : hs_cal (hs_own 37) 89 = some (0, 39) := by decide +kernel
theorem c37_93 : hs_cal (hs_own 37) 93 = some (0, 38) := by decide +kernel
theorem c41_79 : hs_cal (hs_own 41) 79 = some (1, 40) := by decide +kernel
theorem c41_89 : hs_cal (hs_own 41) 89 = some (0, 39) := by decide +kernel
theorem c43_19 : hs_cal (hs_own 43) 19 = some (0, 9) := by decide +kernel
theorem c43_31 : hs_cal (hs_own 43) 31 = some (0, 44) := by decide +kernel
theorem c43_46 : hs_cal (hs_own 43) 46 = some (0, 45) := by decide +kernel
theorem c45_50 : hs_cal (hs_own 45) 50 = some (0, 46) := by decide +kernel
theorem c45_53 : hs_cal (hs_own 45) 53 = some (0, 51) := by decide +kernel
theorem c45_56 : hs_cal (hs_own 45) 56 = some (0, 52) := by decide +kernel
theorem c45_59 : hs_cal (hs_own 45) 59 = some (0, 59) := by decide +kernel
theorem c45_62 : hs_cal (hs_own 45) 62 = some (0, 60) := by decide +kernel
theorem c45_65 : hs_cal (hs_own 45) 65 = some (0, 61) := by decide +kernel
theorem c45_68 : hs_cal (hs_own 45) 68 = some (0, 63) := by decide +kernel
theorem c45_71 : hs_cal (hs_own 45) 71 = some (0, 64) := by decide +kernel
theorem c45_74 : hs_cal (hs_own 45) 74 = some (0, 47) := by decide +kernel
theorem c46_74 : hs_cal (hs_own 46) 74 = some (0, 47) := by decide +kernel
theorem c46_78 : hs_cal (hs_own 46) 78 = some (0, 48) := by decide +kernel
theorem c46_82 : hs_cal (hs_own 46) 82 = some (0, 50) := by decide +kernel
theorem c46_89 : hs_cal (hs_own 46) 89 = some (0, 49) := by decide +kernel
theorem c48_109 : hs_cal (hs_own 48) 109 = some (0, 47) := by decide +kernel
theorem c48_112 : hs_cal (hs_own 48) 112 = some (0, 49) := by decide +kernel
theorem c49_106 : hs_cal (hs_own 49) 106 = some (0, 44) := by decide +kernel
theorem c49_109 : hs_cal (hs_own 49) 109 = some (0, 47) := by decide +kernel
theorem c51_74 : hs_cal (hs_own 51) 74 = some (0, 47) := by decide +kernel
theorem c51_78 : hs_cal (hs_own 51) 78 = some (0, 48) := by decide +kernel
theorem c51_82 : hs_cal (hs_own 51) 82 = some (0, 50) := by decide +kernel
theorem c51_89 : hs_cal (hs_own 51) 89 = some (0, 49) := by decide +kernel
theorem c52_31 : hs_cal (hs_own 52) 31 = some (0, 44) := by decide +kernel
theorem c52_74 : hs_cal (hs_own 52) 74 = some (0, 47) := by decide +kernel
theorem c52_78 : hs_cal (hs_own 52) 78 = some (0, 48) := by decide +kernel
theorem c52_82 : hs_cal (hs_own 52) 82 = some (0, 50) := by decide +kernel
theorem c52_122 : hs_cal (hs_own 52) 122 = some (0, 53) := by decide +kernel
theorem c52_125 : hs_cal (hs_own 52) 125 = some (0, 56) := by decide +kernel
theorem c52_129 : hs_cal (hs_own 52) 129 = some (1, 57) := by decide +kernel
theorem c52_133 : hs_cal (hs_own 52) 133 = some (0, 58) := by decide +kernel
theorem c53_74 : hs_cal (hs_own 53) 74 = some (0, 47) := by decide +kernel
theorem c53_89 : hs_cal (hs_own 53) 89 = some (0, 49) := by decide +kernel
theorem c53_103 : hs_cal (hs_own 53) 103 = some (0, 54) := by decide +kernel
theorem c53_109 : hs_cal (hs_own 53) 109 = some (0, 55) := by decide +kernel
theorem c56_78 : hs_cal (hs_own 56) 78 = some (0, 48) := by decide +kernel
theorem c56_89 : hs_cal (hs_own 56) 89 = some (0, 49) := by decide +kernel
theorem c59_74 : hs_cal (hs_own 59) 74 = some (0, 47) := by decide +kernel
theorem c59_82 : hs_cal (hs_own 59) 82 = some (0, 50) := by decide +kernel
theorem c59_89 : hs_cal (hs_own 59) 89 = some (0, 49) := by decide +kernel
theorem c59_122 : hs_cal (hs_own 59) 122 = some (0, 53) := by decide +kernel
theorem c59_125 : hs_cal (hs_own 59) 125 = some (0, 56) := by decide +kernel
theorem c60_74 : hs_cal (hs_own 60) 74 = some (0, 47) := by decide +kernel
theorem c60_82 : hs_cal (hs_own 60) 82 = some (0, 50) := by decide +kernel
theorem c60_89 : hs_cal (hs_own 60) 89 = some (0, 49) := by decide +kernel
theorem c60_122 : hs_cal (hs_own 60) 122 = some (0, 53) := by decide +kernel
theorem c60_125 : hs_cal (hs_own 60) 125 = some (0, 56) := by decide +kernel
theorem c61_31 : hs_cal (hs_own 61) 31 = some (0, 44) := by decide +kernel
theorem c61_74 : hs_cal (hs_own 61) 74 = some (0, 47) := by decide +kernel
theorem c61_122 : hs_cal (hs_own 61) 122 = some (0, 53) := by decide +kernel
theorem c61_129 : hs_cal (hs_own 61) 129 = some (1, 57) := by decide +kernel
theorem c61_152 : hs_cal (hs_own 61) 152 = some (0, 62) := by decide +kernel
theorem c63_74 : hs_cal (hs_own 63) 74 = some (0, 47) := by decide +kernel
theorem c63_89 : hs_cal (hs_own 63) 89 = some (0, 49) := by decide +kernel
theorem c63_122 : hs_cal (hs_own 63) 122 = some (0, 53) := by decide +kernel
theorem c64_74 : hs_cal (hs_own 64) 74 = some (0, 47) := by decide +kernel
theorem c64_89 : hs_cal (hs_own 64) 89 = some (0, 49) := by decide +kernel
theorem c64_161 : hs_cal (hs_own 64) 161 = some (0, 65) := by decide +kernel
theorem c65_109 : hs_cal (hs_own 65) 109 = some (0, 47) := by decide +kernel
theorem c65_112 : hs_cal (hs_own 65) 112 = some (0, 49) := by decide +kernel
theorem c65_115 : hs_cal (hs_own 65) 115 = some (0, 66) := by decide +kernel
theorem c70_31 : hs_cal (hs_own 70) 31 = some (0, 67) := by decide +kernel
theorem c70_36 : hs_cal (hs_own 70) 36 = some (0, 44) := by decide +kernel
theorem c70_48 : hs_cal (hs_own 70) 48 = some (0, 47) := by decide +kernel
theorem c70_52 : hs_cal (hs_own 70) 52 = some (0, 71) := by decide +kernel
theorem c71_48 : hs_cal (hs_own 71) 48 = some (0, 47) := by decide +kernel
theorem c71_56 : hs_cal (hs_own 71) 56 = some (0, 72) := by decide +kernel
theorem c71_59 : hs_cal (hs_own 71) 59 = some (1, 73) := by decide +kernel
theorem c71_71 : hs_cal (hs_own 71) 71 = some (0, 74) := by decide +kernel
theorem c71_75 : hs_cal (hs_own 71) 75 = some (0, 49) := by decide +kernel
theorem c71_78 : hs_cal (hs_own 71) 78 = some (0, 75) := by decide +kernel
theorem c71_82 : hs_cal (hs_own 71) 82 = some (0, 76) := by decide +kernel
theorem c71_85 : hs_cal (hs_own 71) 85 = some (0, 77) := by decide +kernel
theorem c72_48 : hs_cal (hs_own 72) 48 = some (0, 47) := by decide +kernel
theorem c72_75 : hs_cal (hs_own 72) 75 = some (0, 49) := by decide +kernel
theorem c74_91 : hs_cal (hs_own 74) 91 = some (0, 48) := by decide +kernel
theorem c74_97 : hs_cal (hs_own 74) 97 = some (0, 50) := by decide +kernel
theorem c75_101 : hs_cal (hs_own 75) 101 = some (0, 65) := by decide +kernel
theorem c76_48 : hs_cal (hs_own 76) 48 = some (0, 47) := by decide +kernel
theorem c77_36 : hs_cal (hs_own 77) 36 = some (0, 44) := by decide +kernel
theorem c77_48 : hs_cal (hs_own 77) 48 = some (0, 47) := by decide +kernel
theorem c77_71 : hs_cal (hs_own 77) 71 = some (0, 74) := by decide +kernel
theorem c77_78 : hs_cal (hs_own 77) 78 = some (0, 75) := by decide +kernel
theorem c77_111 : hs_cal (hs_own 77) 111 = some (0, 78) := by decide +kernel
theorem c78_36 : hs_cal (hs_own 78) 36 = some (0, 44) := by decide +kernel
theorem c78_48 : hs_cal (hs_own 78) 48 = some (0, 47) := by decide +kernel
theorem c82_96 : hs_cal (hs_own 82) 96 = some (0, 83) := by decide +kernel
theorem c82_100 : hs_cal (hs_own 82) 100 = some (0, 84) := by decide +kernel
theorem c82_104 : hs_cal (hs_own 82) 104 = some (0, 85) := by decide +kernel
theorem c82_107 : hs_cal (hs_own 82) 107 = some (0, 86) := by decide +kernel
theorem c82_110 : hs_cal (hs_own 82) 110 = some (0, 87) := by decide +kernel
theorem c84_141 : hs_cal (hs_own 84) 141 = some (7, 0) := by decide +kernel
theorem cl2_55 : hs_kL (hs_own 2) 55 = some 32 := by decide +kernel
theorem cl41_97 : hs_kL (hs_own 41) 97 = some 10 := by decide +kernel
theorem d2_0 : decode (hs_code 2) 0 = .ok (.lload_n 0, 1) := by decide +kernel
theorem d2_1 : decode (hs_code 2) 1 = .ok (.ldc2_w 55, 3) := by decide +kernel
theorem d2_4 : decode (hs_code 2) 4 = .ok (.lmul, 1) := by decide +kernel
theorem d2_5 : decode (hs_code 2) 5 = .ok (.iload_n 2, 1) := by decide +kernel
theorem d2_6 : decode (hs_code 2) 6 = .ok (.bipush 97, 2) := by decide +kernel
theorem d2_8 : decode (hs_code 2) 8 = .ok (.isub, 1) := by decide +kernel
theorem d2_9 : decode (hs_code 2) 9 = .ok (.iconst 1, 1) := by decide +kernel
theorem d2_10 : decode (hs_code 2) 10 = .ok (.iadd, 1) := by decide +kernel
theorem d2_11 : decode (hs_code 2) 11 = .ok (.i2l, 1) := by decide +kernel
theorem d2_12 : decode (hs_code 2) 12 = .ok (.ladd, 1) := by decide +kernel
theorem d2_13 : decode (hs_code 2) 13 = .ok (.lreturn, 1) := by decide +kernel
theorem d9_0 : decode (hs_code 9) 0 = .ok (.aload_n 0, 1) := by decide +kernel
theorem d9_1 : decode (hs_code 9) 1 = .ok (.getfield 12, 3) := by decide +kernel
theorem d9_4 : decode (hs_code 9) 4 = .ok (.iconst 0, 1) := by decide +kernel
theorem d9_5 : decode (hs_code 9) 5 = .ok (.putfield 47, 3) := by decide +kernel
theorem d9_8 : decode (hs_code 9) 8 = .ok (.aload_n 0, 1) := by decide +kernel
theorem d9_9 : decode (hs_code 9) 9 = .ok (.getfield 21, 3) := by decide +kernel
theorem d9_12 : decode (hs_code 9) 12 = .ok (.iconst 0, 1) := by decide +kernel
theorem d9_13 : decode (hs_code 9) 13 = .ok (.putfield 51, 3) := by decide +kernel
theorem d9_16 : decode (hs_code 9) 16 = .ok (.aload_n 0, 1) := by decide +kernel
theorem d9_17 : decode (hs_code 9) 17 = .ok (.iconst 0, 1) := by decide +kernel
theorem d9_18 : decode (hs_code 9) 18 = .ok (.putfield 52, 3) := by decide +kernel
theorem d9_21 : decode (hs_code 9) 21 = .ok (.aload_n 0, 1) := by decide +kernel
theorem d9_22 : decode (hs_code 9) 22 = .ok (.iconst 0, 1) := by decide +kernel
theorem d9_23 : decode (hs_code 9) 23 = .ok (.putfield 55, 3) := by decide +kernel
theorem d9_26 : decode (hs_code 9) 26 = .ok (.aload_n 0, 1) := by decide +kernel
theorem d9_27 : decode (hs_code 9) 27 = .ok (.iconst 0, 1) := by decide +kernel
theorem d9_28 : decode (hs_code 9) 28 = .ok (.putfield 58, 3) := by decide +kernel
theorem d9_31 : decode (hs_code 9) 31 = .ok (.aload_n 0, 1) := by decide +kernel
theorem d9_32 : decode (hs_code 9) 32 = .ok (.iconst 0, 1) := by decide +kernel
theorem d9_33 : decode (hs_code 9) 33 = .ok (.putfield 61, 3) := by decide +kernel
theorem d9_36 : decode (hs_code 9) 36 = .ok (.aload_n 0, 1) := by decide +kernel
theorem d9_37 : decode (hs_code 9) 37 = .ok (.iconst 0, 1) := by decide +kernel
theorem d9_38 : decode (hs_code 9) 38 = .ok (.putfield 64, 3) := by decide +kernel
theorem d9_41 : decode (hs_code 9) 41 = .ok (.aload_n 0, 1) := by decide +kernel
theorem d9_42 : decode (hs_code 9) 42 = .ok (.iconst 2, 1) := by decide +kernel
theorem d9_43 : decode (hs_code 9) 43 = .ok (.putfield 67, 3) := by decide +kernel
theorem d9_46 : decode (hs_code 9) 46 = .ok (.aload_n 0, 1) := by decide +kernel
theorem d9_47 : decode (hs_code 9) 47 = .ok (.bipush 20, 2) := by decide +kernel
theorem d9_49 : decode (hs_code 9) 49 = .ok (.putfield 70, 3) := by decide +kernel
theorem d9_52 : decode (hs_code 9) 52 = .ok (.aload_n 0, 1) := by decide +kernel
theorem d9_53 : decode (hs_code 9) 53 = .ok (.iconst 0, 1) := by decide +kernel
theorem d9_54 : decode (hs_code 9) 54 = .ok (.putfield 73, 3) := by decide +kernel
theorem d9_57 : decode (hs_code 9) 57 = .ok (.aload_n 0, 1) := by decide +kernel
theorem d9_58 : decode (hs_code 9) 58 = .ok (.iconst 1, 1) := by decide +kernel
theorem d9_59 : decode (hs_code 9) 59 = .ok (.putfield 76, 3) := by decide +kernel
theorem d9_62 : decode (hs_code 9) 62 = .ok (.aload_n 0, 1) := by decide +kernel
theorem d9_63 : decode (hs_code 9) 63 = .ok (.iconst (-1), 1) := by decide +kernel
theorem d9_64 : decode (hs_code 9) 64 = .ok (.putfield 80, 3) := by decide +kernel
theorem d9_67 : decode (hs_code 9) 67 = .ok (.iconst 0, 1) := by decide +kernel
theorem d9_68 : decode (hs_code 9) 68 = .ok (.istore_n 1, 1) := by decide +kernel
theorem d9_69 : decode (hs_code 9) 69 = .ok (.iload_n 1, 1) := by decide +kernel
theorem d9_70 : decode (hs_code 9) 70 = .ok (.aload_n 0, 1) := by decide +kernel
theorem d9_71 : decode (hs_code 9) 71 = .ok (.getfield 35, 3) := by decide +kernel
theorem d9_74 : decode (hs_code 9) 74 = .ok (.arraylength, 1) := by decide +kernel
theorem d9_75 : decode (hs_code 9) 75 = .ok (.if_icmp .ge 16, 3) := by decide +kernel
theorem d9_78 : decode (hs_code 9) 78 = .ok (.aload_n 0, 1) := by decide +kernel
theorem d9_79 : decode (hs_code 9) 79 = .ok (.getfield 35, 3) := by decide +kernel
theorem d9_82 : decode (hs_code 9) 82 = .ok (.iload_n 1, 1) := by decide +kernel
theorem d9_83 : decode (hs_code 9) 83 = .ok (.iconst 3, 1) := by decide +kernel
theorem d9_84 : decode (hs_code 9) 84 = .ok (.iastore, 1) := by decide +kernel
theorem d9_85 : decode (hs_code 9) 85 = .ok (.iinc 1 1, 3) := by decide +kernel
theorem d9_88 : decode (hs_code 9) 88 = .ok (.goto (-19), 3) := by decide +kernel
theorem d9_91 : decode (hs_code 9) 91 = .ok (.return_, 1) := by decide +kernel
theorem d19_0 : decode (hs_code 19) 0 = .ok (.aload_n 0, 1) := by decide +kernel
theorem d19_1 : decode (hs_code 19) 1 = .ok (.iload_n 1, 1) := by decide +kernel
theorem d19_2 : decode (hs_code 19) 2 = .ok (.putfield 19, 3) := by decide +kernel
theorem d19_5 : decode (hs_code 19) 5 = .ok (.aload_n 0, 1) := by decide +kernel
theorem d19_6 : decode (hs_code 19) 6 = .ok (.iload_n 2, 1) := by decide +kernel
theorem d19_7 : decode (hs_code 19) 7 = .ok (.putfield 15, 3) := by decide +kernel
theorem d19_10 : decode (hs_code 19) 10 = .ok (.iconst 0, 1) := by decide +kernel
theorem d19_11 : decode (hs_code 19) 11 = .ok (.istore_n 3, 1) := by decide +kernel
theorem d19_12 : decode (hs_code 19) 12 = .ok (.iload_n 3, 1) := by decide +kernel
theorem d19_13 : decode (hs_code 19) 13 = .ok (.bipush 60, 2) := by decide +kernel
theorem d19_15 : decode (hs_code 19) 15 = .ok (.if_icmp .ge 16, 3) := by decide +kernel
theorem d19_18 : decode (hs_code 19) 18 = .ok (.aload_n 0, 1) := by decide +kernel
theorem d19_19 : decode (hs_code 19) 19 = .ok (.getfield 9, 3) := by decide +kernel
theorem d19_22 : decode (hs_code 19) 22 = .ok (.iload_n 3, 1) := by decide +kernel
theorem d19_23 : decode (hs_code 19) 23 = .ok (.lconst 0, 1) := by decide +kernel
theorem d19_24 : decode (hs_code 19) 24 = .ok (.lastore, 1) := by decide +kernel
theorem d19_25 : decode (hs_code 19) 25 = .ok (.iinc 3 1, 3) := by decide +kernel
theorem d19_28 : decode (hs_code 19) 28 = .ok (.goto (-16), 3) := by decide +kernel
theorem d19_31 : decode (hs_code 19) 31 = .ok (.return_, 1) := by decide +kernel
theorem d23_0 : decode (hs_code 23) 0 = .ok (.aload_n 0, 1) := by decide +kernel
theorem d23_1 : decode (hs_code 23) 1 = .ok (.getfield 15, 3) := by decide +kernel
theorem d23_4 : decode (hs_code 23) 4 = .ok (.ifCond .ge 7, 3) := by decide +kernel
theorem d23_7 : decode (hs_code 23) 7 = .ok (.iconst 1, 1) := by decide +kernel
theorem d23_8 : decode (hs_code 23) 8 = .ok (.goto 4, 3) := by decide +kernel
theorem d23_11 : decode (hs_code 23) 11 = .ok (.iconst 0, 1) := by decide +kernel
theorem d23_12 : decode (hs_code 23) 12 = .ok (.ireturn, 1) := by decide +kernel
theorem d24_0 : decode (hs_code 24) 0 = .ok (.iload_n 1, 1) := by decide +kernel
theorem d24_1 : decode (hs_code 24) 1 = .ok (.ifCond .lt 15, 3) := by decide +kernel
theorem d24_4 : decode (hs_code 24) 4 = .ok (.iload_n 1, 1) := by decide +kernel
theorem d24_5 : decode (hs_code 24) 5 = .ok (.aload_n 0, 1) := by decide +kernel
theorem d24_6 : decode (hs_code 24) 6 = .ok (.getfield 15, 3) := by decide +kernel
theorem d24_9 : decode (hs_code 24) 9 = .ok (.if_icmp .ge 7, 3) := by decide +kernel
theorem d24_12 : decode (hs_code 24) 12 = .ok (.iconst 1, 1) := by decide +kernel
theorem d24_13 : decode (hs_code 24) 13 = .ok (.goto 4, 3) := by decide +kernel
theorem d24_16 : decode (hs_code 24) 16 = .ok (.iconst 0, 1) := by decide +kernel
theorem d24_17 : decode (hs_code 24) 17 = .ok (.ireturn, 1) := by decide +kernel
theorem d25_0 : decode (hs_code 25) 0 = .ok (.aload_n 0, 1) := by decide +kernel
theorem d25_1 : decode (hs_code 25) 1 = .ok (.iload_n 1, 1) := by decide +kernel
theorem d25_2 : decode (hs_code 25) 2 = .ok (.invokevirtual 22, 3) := by decide +kernel
theorem d25_5 : decode (hs_code 25) 5 = .ok (.ifCond .eq 14, 3) := by decide +kernel
theorem d25_8 : decode (hs_code 25) 8 = .ok (.aload_n 0, 1) := by decide +kernel
theorem d25_9 : decode (hs_code 25) 9 = .ok (.getfield 9, 3) := by decide +kernel
theorem d25_12 : decode (hs_code 25) 12 = .ok (.iload_n 1, 1) := by decide +kernel
theorem d25_13 : decode (hs_code 25) 13 = .ok (.aload_n 0, 1) := by decide +kernel
theorem d25_14 : decode (hs_code 25) 14 = .ok (.lload_n 2, 1) := by decide +kernel
theorem d25_15 : decode (hs_code 25) 15 = .ok (.invokevirtual 26, 3) := by decide +kernel
theorem d25_18 : decode (hs_code 25) 18 = .ok (.lastore, 1) := by decide +kernel
theorem d25_19 : decode (hs_code 25) 19 = .ok (.return_, 1) := by decide +kernel
theorem d26_0 : decode (hs_code 26) 0 = .ok (.aload_n 0, 1) := by decide +kernel
theorem d26_1 : decode (hs_code 26) 1 = .ok (.getfield 19, 3) := by decide +kernel
theorem d26_4 : decode (hs_code 26) 4 = .ok (.tableswitch 42 0 2 #[28, 33, 38], 28) := by decide +kernel
theorem d26_32 : decode (hs_code 26) 32 = .ok (.lload_n 1, 1) := by decide +kernel
theorem d26_33 : decode (hs_code 26) 33 = .ok (.l2i, 1) := by decide +kernel
theorem d26_34 : decode (hs_code 26) 34 = .ok (.i2b, 1) := by decide +kernel
theorem d26_35 : decode (hs_code 26) 35 = .ok (.i2l, 1) := by decide +kernel
theorem d26_36 : decode (hs_code 26) 36 = .ok (.lreturn, 1) := by decide +kernel
theorem d26_37 : decode (hs_code 26) 37 = .ok (.lload_n 1, 1) := by decide +kernel
theorem d26_38 : decode (hs_code 26) 38 = .ok (.l2i, 1) := by decide +kernel
theorem d26_39 : decode (hs_code 26) 39 = .ok (.i2s, 1) := by decide +kernel
theorem d26_40 : decode (hs_code 26) 40 = .ok (.i2l, 1) := by decide +kernel
theorem d26_41 : decode (hs_code 26) 41 = .ok (.lreturn, 1) := by decide +kernel
theorem d26_42 : decode (hs_code 26) 42 = .ok (.lload_n 1, 1) := by decide +kernel
theorem d26_43 : decode (hs_code 26) 43 = .ok (.l2i, 1) := by decide +kernel
theorem d26_44 : decode (hs_code 26) 44 = .ok (.i2l, 1) := by decide +kernel
theorem d26_45 : decode (hs_code 26) 45 = .ok (.lreturn, 1) := by decide +kernel
theorem d26_46 : decode (hs_code 26) 46 = .ok (.lload_n 1, 1) := by decide +kernel
theorem d26_47 : decode (hs_code 26) 47 = .ok (.lreturn, 1) := by decide +kernel
theorem d30_0 : decode (hs_code 30) 0 = .ok (.iload_n 1, 1) := by decide +kernel
theorem d30_1 : decode (hs_code 30) 1 = .ok (.ifCond .lt 17, 3) := by decide +kernel
theorem d30_4 : decode (hs_code 30) 4 = .ok (.iload_n 1, 1) := by decide +kernel
theorem d30_5 : decode (hs_code 30) 5 = .ok (.aload_n 0, 1) := by decide +kernel
theorem d30_6 : decode (hs_code 30) 6 = .ok (.getfield 15, 3) := by decide +kernel
theorem d30_9 : decode (hs_code 30) 9 = .ok (.iload_n 2, 1) := by decide +kernel
theorem d30_10 : decode (hs_code 30) 10 = .ok (.isub, 1) := by decide +kernel
theorem d30_11 : decode (hs_code 30) 11 = .ok (.if_icmp .gt 7, 3) := by decide +kernel
theorem d30_14 : decode (hs_code 30) 14 = .ok (.iconst 1, 1) := by decide +kernel
theorem d30_15 : decode (hs_code 30) 15 = .ok (.goto 4, 3) := by decide +kernel
theorem d30_18 : decode (hs_code 30) 18 = .ok (.iconst 0, 1) := by decide +kernel
theorem d30_19 : decode (hs_code 30) 19 = .ok (.ireturn, 1) := by decide +kernel
theorem d32_0 : decode (hs_code 32) 0 = .ok (.aload_n 0, 1) := by decide +kernel
theorem d32_1 : decode (hs_code 32) 1 = .ok (.getfield 57, 3) := by decide +kernel
theorem d32_4 : decode (hs_code 32) 4 = .ok (.sipush 900, 3) := by decide +kernel
theorem d32_7 : decode (hs_code 32) 7 = .ok (.iload_n 1, 1) := by decide +kernel
theorem d32_8 : decode (hs_code 32) 8 = .ok (.isub, 1) := by decide +kernel
theorem d32_9 : decode (hs_code 32) 9 = .ok (.if_icmp .gt 7, 3) := by decide +kernel
theorem d32_12 : decode (hs_code 32) 12 = .ok (.iconst 1, 1) := by decide +kernel
theorem d32_13 : decode (hs_code 32) 13 = .ok (.goto 4, 3) := by decide +kernel
theorem d32_16 : decode (hs_code 32) 16 = .ok (.iconst 0, 1) := by decide +kernel
theorem d32_17 : decode (hs_code 32) 17 = .ok (.ireturn, 1) := by decide +kernel
theorem d33_0 : decode (hs_code 33) 0 = .ok (.bipush 24, 2) := by decide +kernel
theorem d33_2 : decode (hs_code 33) 2 = .ok (.istore_n 2, 1) := by decide +kernel
theorem d33_3 : decode (hs_code 33) 3 = .ok (.iload_n 2, 1) := by decide +kernel
theorem d33_4 : decode (hs_code 33) 4 = .ok (.ifCond .lt 42, 3) := by decide +kernel
theorem d33_7 : decode (hs_code 33) 7 = .ok (.aload_n 0, 1) := by decide +kernel
theorem d33_8 : decode (hs_code 33) 8 = .ok (.getfield 57, 3) := by decide +kernel
theorem d33_11 : decode (hs_code 33) 11 = .ok (.sipush 900, 3) := by decide +kernel
theorem d33_14 : decode (hs_code 33) 14 = .ok (.if_icmp .ge 32, 3) := by decide +kernel
theorem d33_17 : decode (hs_code 33) 17 = .ok (.aload_n 0, 1) := by decide +kernel
theorem d33_18 : decode (hs_code 33) 18 = .ok (.getfield 9, 3) := by decide +kernel
theorem d33_21 : decode (hs_code 33) 21 = .ok (.aload_n 0, 1) := by decide +kernel
theorem d33_22 : decode (hs_code 33) 22 = .ok (.getfield 57, 3) := by decide +kernel
theorem d33_25 : decode (hs_code 33) 25 = .ok (.iload_n 1, 1) := by decide +kernel
theorem d33_26 : decode (hs_code 33) 26 = .ok (.iload_n 2, 1) := by decide +kernel
theorem d33_27 : decode (hs_code 33) 27 = .ok (.ishr, 1) := by decide +kernel
theorem d33_28 : decode (hs_code 33) 28 = .ok (.i2b, 1) := by decide +kernel
theorem d33_29 : decode (hs_code 33) 29 = .ok (.bastore, 1) := by decide +kernel
theorem d33_30 : decode (hs_code 33) 30 = .ok (.aload_n 0, 1) := by decide +kernel
theorem d33_31 : decode (hs_code 33) 31 = .ok (.dup, 1) := by decide +kernel
theorem d33_32 : decode (hs_code 33) 32 = .ok (.getfield 57, 3) := by decide +kernel
theorem d33_35 : decode (hs_code 33) 35 = .ok (.iconst 1, 1) := by decide +kernel
theorem d33_36 : decode (hs_code 33) 36 = .ok (.iadd, 1) := by decide +kernel
theorem d33_37 : decode (hs_code 33) 37 = .ok (.putfield 57, 3) := by decide +kernel
theorem d33_40 : decode (hs_code 33) 40 = .ok (.iinc 2 (-8), 3) := by decide +kernel
theorem d33_43 : decode (hs_code 33) 43 = .ok (.goto (-40), 3) := by decide +kernel
theorem d33_46 : decode (hs_code 33) 46 = .ok (.return_, 1) := by decide +kernel
theorem d35_0 : decode (hs_code 35) 0 = .ok (.iload_n 1, 1) := by decide +kernel
theorem d35_1 : decode (hs_code 35) 1 = .ok (.aload_n 0, 1) := by decide +kernel
theorem d35_2 : decode (hs_code 35) 2 = .ok (.getfield 57, 3) := by decide +kernel
theorem d35_5 : decode (hs_code 35) 5 = .ok (.invokestatic 60, 3) := by decide +kernel
theorem d35_8 : decode (hs_code 35) 8 = .ok (.istore_n 2, 1) := by decide +kernel
theorem d35_9 : decode (hs_code 35) 9 = .ok (.aload_n 0, 1) := by decide +kernel
theorem d35_10 : decode (hs_code 35) 10 = .ok (.iconst 0, 1) := by decide +kernel
theorem d35_11 : decode (hs_code 35) 11 = .ok (.putfield 57, 3) := by decide +kernel
theorem d35_14 : decode (hs_code 35) 14 = .ok (.aload_n 0, 1) := by decide +kernel
theorem d35_15 : decode (hs_code 35) 15 = .ok (.iconst 0, 1) := by decide +kernel
theorem d35_16 : decode (hs_code 35) 16 = .ok (.putfield 66, 3) := by decide +kernel
theorem d35_19 : decode (hs_code 35) 19 = .ok (.aload_n 0, 1) := by decide +kernel
theorem d35_20 : decode (hs_code 35) 20 = .ok (.iconst 0, 1) := by decide +kernel
theorem d35_21 : decode (hs_code 35) 21 = .ok (.putfield 69, 3) := by decide +kernel
theorem d35_24 : decode (hs_code 35) 24 = .ok (.aload_n 0, 1) := by decide +kernel
theorem d35_25 : decode (hs_code 35) 25 = .ok (.iconst 0, 1) := by decide +kernel
theorem d35_26 : decode (hs_code 35) 26 = .ok (.putfield 33, 3) := by decide +kernel
theorem d35_29 : decode (hs_code 35) 29 = .ok (.aload_n 0, 1) := by decide +kernel
theorem d35_30 : decode (hs_code 35) 30 = .ok (.iconst (-1), 1) := by decide +kernel
theorem d35_31 : decode (hs_code 35) 31 = .ok (.putfield 36, 3) := by decide +kernel
theorem d35_34 : decode (hs_code 35) 34 = .ok (.iconst 0, 1) := by decide +kernel
theorem d35_35 : decode (hs_code 35) 35 = .ok (.istore_n 3, 1) := by decide +kernel
theorem d35_36 : decode (hs_code 35) 36 = .ok (.iconst 0, 1) := by decide +kernel
theorem d35_37 : decode (hs_code 35) 37 = .ok (.istore 4, 2) := by decide +kernel
theorem d35_39 : decode (hs_code 35) 39 = .ok (.iload 4, 2) := by decide +kernel
theorem d35_41 : decode (hs_code 35) 41 = .ok (.sipush 900, 3) := by decide +kernel
theorem d35_44 : decode (hs_code 35) 44 = .ok (.if_icmp .ge 92, 3) := by decide +kernel
theorem d35_47 : decode (hs_code 35) 47 = .ok (.iload_n 3, 1) := by decide +kernel
theorem d35_48 : decode (hs_code 35) 48 = .ok (.iload_n 2, 1) := by decide +kernel
theorem d35_49 : decode (hs_code 35) 49 = .ok (.if_icmp .ge 87, 3) := by decide +kernel
theorem d35_52 : decode (hs_code 35) 52 = .ok (.aload_n 0, 1) := by decide +kernel
theorem d35_53 : decode (hs_code 35) 53 = .ok (.getfield 9, 3) := by decide +kernel
theorem d35_56 : decode (hs_code 35) 56 = .ok (.iload_n 3, 1) := by decide +kernel
theorem d35_57 : decode (hs_code 35) 57 = .ok (.baload, 1) := by decide +kernel
theorem d35_58 : decode (hs_code 35) 58 = .ok (.istore 5, 2) := by decide +kernel
theorem d35_60 : decode (hs_code 35) 60 = .ok (.iload 5, 2) := by decide +kernel
theorem d35_62 : decode (hs_code 35) 62 = .ok (.bipush 10, 2) := by decide +kernel
theorem d35_64 : decode (hs_code 35) 64 = .ok (.if_icmp .eq 10, 3) := by decide +kernel
theorem d35_67 : decode (hs_code 35) 67 = .ok (.iload 5, 2) := by decide +kernel
theorem d35_69 : decode (hs_code 35) 69 = .ok (.bipush 32, 2) := by decide +kernel
theorem d35_71 : decode (hs_code 35) 71 = .ok (.if_icmp .ne 9, 3) := by decide +kernel
theorem d35_74 : decode (hs_code 35) 74 = .ok (.iinc 3 1, 3) := by decide +kernel
theorem d35_77 : decode (hs_code 35) 77 = .ok (.goto 53, 3) := by decide +kernel
theorem d35_80 : decode (hs_code 35) 80 = .ok (.iload 5, 2) := by decide +kernel
theorem d35_82 : decode (hs_code 35) 82 = .ok (.invokestatic 72, 3) := by decide +kernel
theorem d35_85 : decode (hs_code 35) 85 = .ok (.ifCond .eq 13, 3) := by decide +kernel
theorem d35_88 : decode (hs_code 35) 88 = .ok (.aload_n 0, 1) := by decide +kernel
theorem d35_89 : decode (hs_code 35) 89 = .ok (.iload_n 3, 1) := by decide +kernel
theorem d35_90 : decode (hs_code 35) 90 = .ok (.iload_n 2, 1) := by decide +kernel
theorem d35_91 : decode (hs_code 35) 91 = .ok (.invokevirtual 76, 3) := by decide +kernel
theorem d35_94 : decode (hs_code 35) 94 = .ok (.istore_n 3, 1) := by decide +kernel
theorem d35_95 : decode (hs_code 35) 95 = .ok (.goto 35, 3) := by decide +kernel
theorem d35_98 : decode (hs_code 35) 98 = .ok (.iload 5, 2) := by decide +kernel
theorem d35_100 : decode (hs_code 35) 100 = .ok (.invokestatic 79, 3) := by decide +kernel
theorem d35_103 : decode (hs_code 35) 103 = .ok (.ifCond .eq 13, 3) := by decide +kernel
theorem d35_106 : decode (hs_code 35) 106 = .ok (.aload_n 0, 1) := by decide +kernel
theorem d35_107 : decode (hs_code 35) 107 = .ok (.iload_n 3, 1) := by decide +kernel
theorem d35_108 : decode (hs_code 35) 108 = .ok (.iload_n 2, 1) := by decide +kernel
theorem d35_109 : decode (hs_code 35) 109 = .ok (.invokevirtual 82, 3) := by decide +kernel
theorem d35_112 : decode (hs_code 35) 112 = .ok (.istore_n 3, 1) := by decide +kernel
theorem d35_113 : decode (hs_code 35) 113 = .ok (.goto 17, 3) := by decide +kernel
theorem d35_116 : decode (hs_code 35) 116 = .ok (.aload_n 0, 1) := by decide +kernel
theorem d35_117 : decode (hs_code 35) 117 = .ok (.iload 5, 2) := by decide +kernel
theorem d35_119 : decode (hs_code 35) 119 = .ok (.invokestatic 85, 3) := by decide +kernel
theorem d35_122 : decode (hs_code 35) 122 = .ok (.iload_n 3, 1) := by decide +kernel
theorem d35_123 : decode (hs_code 35) 123 = .ok (.lconst 0, 1) := by decide +kernel
theorem d35_124 : decode (hs_code 35) 124 = .ok (.invokevirtual 89, 3) := by decide +kernel
theorem d35_127 : decode (hs_code 35) 127 = .ok (.iinc 3 1, 3) := by decide +kernel
theorem d35_130 : decode (hs_code 35) 130 = .ok (.iinc 4 1, 3) := by decide +kernel
theorem d35_133 : decode (hs_code 35) 133 = .ok (.goto (-94), 3) := by decide +kernel
theorem d35_136 : decode (hs_code 35) 136 = .ok (.aload_n 0, 1) := by decide +kernel
theorem d35_137 : decode (hs_code 35) 137 = .ok (.bipush 37, 2) := by decide +kernel
theorem d35_139 : decode (hs_code 35) 139 = .ok (.iload_n 2, 1) := by decide +kernel
theorem d35_140 : decode (hs_code 35) 140 = .ok (.lconst 0, 1) := by decide +kernel
theorem d35_141 : decode (hs_code 35) 141 = .ok (.invokevirtual 89, 3) := by decide +kernel
theorem d35_144 : decode (hs_code 35) 144 = .ok (.return_, 1) := by decide +kernel
theorem d36_0 : decode (hs_code 36) 0 = .ok (.iload_n 0, 1) := by decide +kernel
theorem d36_1 : decode (hs_code 36) 1 = .ok (.bipush 97, 2) := by decide +kernel
theorem d36_3 : decode (hs_code 36) 3 = .ok (.if_icmp .lt 13, 3) := by decide +kernel
theorem d36_6 : decode (hs_code 36) 6 = .ok (.iload_n 0, 1) := by decide +kernel
theorem d36_7 : decode (hs_code 36) 7 = .ok (.bipush 122, 2) := by decide +kernel
theorem d36_9 : decode (hs_code 36) 9 = .ok (.if_icmp .gt 7, 3) := by decide +kernel
theorem d36_12 : decode (hs_code 36) 12 = .ok (.iconst 1, 1) := by decide +kernel
theorem d36_13 : decode (hs_code 36) 13 = .ok (.goto 4, 3) := by decide +kernel
theorem d36_16 : decode (hs_code 36) 16 = .ok (.iconst 0, 1) := by decide +kernel
theorem d36_17 : decode (hs_code 36) 17 = .ok (.ireturn, 1) := by decide +kernel
theorem d37_0 : decode (hs_code 37) 0 = .ok (.lconst 0, 1) := by decide +kernel
theorem d37_1 : decode (hs_code 37) 1 = .ok (.lstore_n 3, 1) := by decide +kernel
theorem d37_2 : decode (hs_code 37) 2 = .ok (.iload_n 1, 1) := by decide +kernel
theorem d37_3 : decode (hs_code 37) 3 = .ok (.istore 5, 2) := by decide +kernel
theorem d37_5 : decode (hs_code 37) 5 = .ok (.iload 5, 2) := by decide +kernel
theorem d37_7 : decode (hs_code 37) 7 = .ok (.iload_n 2, 1) := by decide +kernel
theorem d37_8 : decode (hs_code 37) 8 = .ok (.if_icmp .ge 43, 3) := by decide +kernel
theorem d37_11 : decode (hs_code 37) 11 = .ok (.aload_n 0, 1) := by decide +kernel
theorem d37_12 : decode (hs_code 37) 12 = .ok (.getfield 9, 3) := by decide +kernel
theorem d37_15 : decode (hs_code 37) 15 = .ok (.iload 5, 2) := by decide +kernel
theorem d37_17 : decode (hs_code 37) 17 = .ok (.baload, 1) := by decide +kernel
theorem d37_18 : decode (hs_code 37) 18 = .ok (.invokestatic 72, 3) := by decide +kernel
theorem d37_21 : decode (hs_code 37) 21 = .ok (.ifCond .eq 30, 3) := by decide +kernel
theorem d37_24 : decode (hs_code 37) 24 = .ok (.iload 5, 2) := by decide +kernel
theorem d37_26 : decode (hs_code 37) 26 = .ok (.iload_n 1, 1) := by decide +kernel
theorem d37_27 : decode (hs_code 37) 27 = .ok (.isub, 1) := by decide +kernel
theorem d37_28 : decode (hs_code 37) 28 = .ok (.bipush 8, 2) := by decide +kernel
theorem d37_30 : decode (hs_code 37) 30 = .ok (.if_icmp .ge 15, 3) := by decide +kernel
theorem d37_33 : decode (hs_code 37) 33 = .ok (.lload_n 3, 1) := by decide +kernel
theorem d37_34 : decode (hs_code 37) 34 = .ok (.aload_n 0, 1) := by decide +kernel
theorem d37_35 : decode (hs_code 37) 35 = .ok (.getfield 9, 3) := by decide +kernel
theorem d37_38 : decode (hs_code 37) 38 = .ok (.iload 5, 2) := by decide +kernel
theorem d37_40 : decode (hs_code 37) 40 = .ok (.baload, 1) := by decide +kernel
theorem d37_41 : decode (hs_code 37) 41 = .ok (.invokestatic 51, 3) := by decide +kernel
theorem d37_44 : decode (hs_code 37) 44 = .ok (.lstore_n 3, 1) := by decide +kernel
theorem d37_45 : decode (hs_code 37) 45 = .ok (.iinc 5 1, 3) := by decide +kernel
theorem d37_48 : decode (hs_code 37) 48 = .ok (.goto (-43), 3) := by decide +kernel
theorem d37_51 : decode (hs_code 37) 51 = .ok (.aload_n 0, 1) := by decide +kernel
theorem d37_52 : decode (hs_code 37) 52 = .ok (.iload 5, 2) := by decide +kernel
theorem d37_54 : decode (hs_code 37) 54 = .ok (.iload_n 1, 1) := by decide +kernel
theorem d37_55 : decode (hs_code 37) 55 = .ok (.isub, 1) := by decide +kernel
theorem d37_56 : decode (hs_code 37) 56 = .ok (.bipush 8, 2) := by decide +kernel
theorem d37_58 : decode (hs_code 37) 58 = .ok (.if_icmp .le 8, 3) := by decide +kernel
theorem d37_61 : decode (hs_code 37) 61 = .ok (.bipush 31, 2) := by decide +kernel
theorem d37_63 : decode (hs_code 37) 63 = .ok (.goto 8, 3) := by decide +kernel
theorem d37_66 : decode (hs_code 37) 66 = .ok (.aload_n 0, 1) := by decide +kernel
theorem d37_67 : decode (hs_code 37) 67 = .ok (.lload_n 3, 1) := by decide +kernel
theorem d37_68 : decode (hs_code 37) 68 = .ok (.invokevirtual 93, 3) := by decide +kernel
theorem d37_71 : decode (hs_code 37) 71 = .ok (.iload_n 1, 1) := by decide +kernel
theorem d37_72 : decode (hs_code 37) 72 = .ok (.lload_n 3, 1) := by decide +kernel
theorem d37_73 : decode (hs_code 37) 73 = .ok (.invokevirtual 89, 3) := by decide +kernel
theorem d37_76 : decode (hs_code 37) 76 = .ok (.iload 5, 2) := by decide +kernel
theorem d37_78 : decode (hs_code 37) 78 = .ok (.ireturn, 1) := by decide +kernel
theorem d38_0 : decode (hs_code 38) 0 = .ok (.iconst 0, 1) := by decide +kernel
theorem d38_1 : decode (hs_code 38) 1 = .ok (.istore_n 3, 1) := by decide +kernel
theorem d38_2 : decode (hs_code 38) 2 = .ok (.iload_n 3, 1) := by decide +kernel
theorem d38_3 : decode (hs_code 38) 3 = .ok (.bipush 30, 2) := by decide +kernel
theorem d38_5 : decode (hs_code 38) 5 = .ok (.if_icmp .ge 22, 3) := by decide +kernel
theorem d38_8 : decode (hs_code 38) 8 = .ok (.aload_n 0, 1) := by decide +kernel
theorem d38_9 : decode (hs_code 38) 9 = .ok (.getfield 15, 3) := by decide +kernel
theorem d38_12 : decode (hs_code 38) 12 = .ok (.iload_n 3, 1) := by decide +kernel
theorem d38_13 : decode (hs_code 38) 13 = .ok (.laload, 1) := by decide +kernel
theorem d38_14 : decode (hs_code 38) 14 = .ok (.lload_n 1, 1) := by decide +kernel
theorem d38_15 : decode (hs_code 38) 15 = .ok (.lcmp, 1) := by decide +kernel
theorem d38_16 : decode (hs_code 38) 16 = .ok (.ifCond .ne 5, 3) := by decide +kernel
theorem d38_19 : decode (hs_code 38) 19 = .ok (.iload_n 3, 1) := by decide +kernel
theorem d38_20 : decode (hs_code 38) 20 = .ok (.ireturn, 1) := by decide +kernel
theorem d38_21 : decode (hs_code 38) 21 = .ok (.iinc 3 1, 3) := by decide +kernel
theorem d38_24 : decode (hs_code 38) 24 = .ok (.goto (-22), 3) := by decide +kernel
theorem d38_27 : decode (hs_code 38) 27 = .ok (.bipush 30, 2) := by decide +kernel
theorem d38_29 : decode (hs_code 38) 29 = .ok (.ireturn, 1) := by decide +kernel
theorem d39_0 : decode (hs_code 39) 0 = .ok (.aload_n 0, 1) := by decide +kernel
theorem d39_1 : decode (hs_code 39) 1 = .ok (.getfield 66, 3) := by decide +kernel
theorem d39_4 : decode (hs_code 39) 4 = .ok (.sipush 900, 3) := by decide +kernel
theorem d39_7 : decode (hs_code 39) 7 = .ok (.if_icmp .gt 43, 3) := by decide +kernel
theorem d39_10 : decode (hs_code 39) 10 = .ok (.aload_n 0, 1) := by decide +kernel
theorem d39_11 : decode (hs_code 39) 11 = .ok (.getfield 19, 3) := by decide +kernel
theorem d39_14 : decode (hs_code 39) 14 = .ok (.aload_n 0, 1) := by decide +kernel
theorem d39_15 : decode (hs_code 39) 15 = .ok (.getfield 66, 3) := by decide +kernel
theorem d39_18 : decode (hs_code 39) 18 = .ok (.iload_n 1, 1) := by decide +kernel
theorem d39_19 : decode (hs_code 39) 19 = .ok (.iastore, 1) := by decide +kernel
theorem d39_20 : decode (hs_code 39) 20 = .ok (.aload_n 0, 1) := by decide +kernel
theorem d39_21 : decode (hs_code 39) 21 = .ok (.getfield 23, 3) := by decide +kernel
theorem d39_24 : decode (hs_code 39) 24 = .ok (.aload_n 0, 1) := by decide +kernel
theorem d39_25 : decode (hs_code 39) 25 = .ok (.getfield 66, 3) := by decide +kernel
theorem d39_28 : decode (hs_code 39) 28 = .ok (.iload_n 2, 1) := by decide +kernel
theorem d39_29 : decode (hs_code 39) 29 = .ok (.iastore, 1) := by decide +kernel
theorem d39_30 : decode (hs_code 39) 30 = .ok (.aload_n 0, 1) := by decide +kernel
theorem d39_31 : decode (hs_code 39) 31 = .ok (.getfield 26, 3) := by decide +kernel
theorem d39_34 : decode (hs_code 39) 34 = .ok (.aload_n 0, 1) := by decide +kernel
theorem d39_35 : decode (hs_code 39) 35 = .ok (.getfield 66, 3) := by decide +kernel
theorem d39_38 : decode (hs_code 39) 38 = .ok (.lload_n 3, 1) := by decide +kernel
theorem d39_39 : decode (hs_code 39) 39 = .ok (.lastore, 1) := by decide +kernel
theorem d39_40 : decode (hs_code 39) 40 = .ok (.aload_n 0, 1) := by decide +kernel
theorem d39_41 : decode (hs_code 39) 41 = .ok (.dup, 1) := by decide +kernel
theorem d39_42 : decode (hs_code 39) 42 = .ok (.getfield 66, 3) := by decide +kernel
theorem d39_45 : decode (hs_code 39) 45 = .ok (.iconst 1, 1) := by decide +kernel
theorem d39_46 : decode (hs_code 39) 46 = .ok (.iadd, 1) := by decide +kernel
theorem d39_47 : decode (hs_code 39) 47 = .ok (.putfield 66, 3) := by decide +kernel
theorem d39_50 : decode (hs_code 39) 50 = .ok (.return_, 1) := by decide +kernel
theorem d40_0 : decode (hs_code 40) 0 = .ok (.iload_n 0, 1) := by decide +kernel
theorem d40_1 : decode (hs_code 40) 1 = .ok (.bipush 48, 2) := by decide +kernel
theorem d40_3 : decode (hs_code 40) 3 = .ok (.if_icmp .lt 13, 3) := by decide +kernel
theorem d40_6 : decode (hs_code 40) 6 = .ok (.iload_n 0, 1) := by decide +kernel
theorem d40_7 : decode (hs_code 40) 7 = .ok (.bipush 57, 2) := by decide +kernel
theorem d40_9 : decode (hs_code 40) 9 = .ok (.if_icmp .gt 7, 3) := by decide +kernel
theorem d40_12 : decode (hs_code 40) 12 = .ok (.iconst 1, 1) := by decide +kernel
theorem d40_13 : decode (hs_code 40) 13 = .ok (.goto 4, 3) := by decide +kernel
theorem d40_16 : decode (hs_code 40) 16 = .ok (.iconst 0, 1) := by decide +kernel
theorem d40_17 : decode (hs_code 40) 17 = .ok (.ireturn, 1) := by decide +kernel
theorem d41_0 : decode (hs_code 41) 0 = .ok (.lconst 0, 1) := by decide +kernel
theorem d41_1 : decode (hs_code 41) 1 = .ok (.lstore_n 3, 1) := by decide +kernel
theorem d41_2 : decode (hs_code 41) 2 = .ok (.iload_n 1, 1) := by decide +kernel
theorem d41_3 : decode (hs_code 41) 3 = .ok (.istore 5, 2) := by decide +kernel
theorem d41_5 : decode (hs_code 41) 5 = .ok (.iload 5, 2) := by decide +kernel
theorem d41_7 : decode (hs_code 41) 7 = .ok (.iload_n 2, 1) := by decide +kernel
theorem d41_8 : decode (hs_code 41) 8 = .ok (.if_icmp .ge 48, 3) := by decide +kernel
theorem d41_11 : decode (hs_code 41) 11 = .ok (.aload_n 0, 1) := by decide +kernel
theorem d41_12 : decode (hs_code 41) 12 = .ok (.getfield 9, 3) := by decide +kernel
theorem d41_15 : decode (hs_code 41) 15 = .ok (.iload 5, 2) := by decide +kernel
theorem d41_17 : decode (hs_code 41) 17 = .ok (.baload, 1) := by decide +kernel
theorem d41_18 : decode (hs_code 41) 18 = .ok (.invokestatic 79, 3) := by decide +kernel
theorem d41_21 : decode (hs_code 41) 21 = .ok (.ifCond .eq 35, 3) := by decide +kernel
theorem d41_24 : decode (hs_code 41) 24 = .ok (.iload 5, 2) := by decide +kernel
theorem d41_26 : decode (hs_code 41) 26 = .ok (.iload_n 1, 1) := by decide +kernel
theorem d41_27 : decode (hs_code 41) 27 = .ok (.isub, 1) := by decide +kernel
theorem d41_28 : decode (hs_code 41) 28 = .ok (.iconst 4, 1) := by decide +kernel
theorem d41_29 : decode (hs_code 41) 29 = .ok (.if_icmp .ge 21, 3) := by decide +kernel
theorem d41_32 : decode (hs_code 41) 32 = .ok (.lload_n 3, 1) := by decide +kernel
theorem d41_33 : decode (hs_code 41) 33 = .ok (.ldc2_w 97, 3) := by decide +kernel
theorem d41_36 : decode (hs_code 41) 36 = .ok (.lmul, 1) := by decide +kernel
theorem d41_37 : decode (hs_code 41) 37 = .ok (.aload_n 0, 1) := by decide +kernel
theorem d41_38 : decode (hs_code 41) 38 = .ok (.getfield 9, 3) := by decide +kernel
theorem d41_41 : decode (hs_code 41) 41 = .ok (.iload 5, 2) := by decide +kernel
theorem d41_43 : decode (hs_code 41) 43 = .ok (.baload, 1) := by decide +kernel
theorem d41_44 : decode (hs_code 41) 44 = .ok (.bipush 48, 2) := by decide +kernel
theorem d41_46 : decode (hs_code 41) 46 = .ok (.isub, 1) := by decide +kernel
theorem d41_47 : decode (hs_code 41) 47 = .ok (.i2l, 1) := by decide +kernel
theorem d41_48 : decode (hs_code 41) 48 = .ok (.ladd, 1) := by decide +kernel
theorem d41_49 : decode (hs_code 41) 49 = .ok (.lstore_n 3, 1) := by decide +kernel
theorem d41_50 : decode (hs_code 41) 50 = .ok (.iinc 5 1, 3) := by decide +kernel
theorem d41_53 : decode (hs_code 41) 53 = .ok (.goto (-48), 3) := by decide +kernel
theorem d41_56 : decode (hs_code 41) 56 = .ok (.aload_n 0, 1) := by decide +kernel
theorem d41_57 : decode (hs_code 41) 57 = .ok (.iload 5, 2) := by decide +kernel
theorem d41_59 : decode (hs_code 41) 59 = .ok (.iload_n 1, 1) := by decide +kernel
theorem d41_60 : decode (hs_code 41) 60 = .ok (.isub, 1) := by decide +kernel
theorem d41_61 : decode (hs_code 41) 61 = .ok (.iconst 4, 1) := by decide +kernel
theorem d41_62 : decode (hs_code 41) 62 = .ok (.if_icmp .le 8, 3) := by decide +kernel
theorem d41_65 : decode (hs_code 41) 65 = .ok (.bipush 38, 2) := by decide +kernel
theorem d41_67 : decode (hs_code 41) 67 = .ok (.goto 5, 3) := by decide +kernel
theorem d41_70 : decode (hs_code 41) 70 = .ok (.bipush 32, 2) := by decide +kernel
theorem d41_72 : decode (hs_code 41) 72 = .ok (.iload_n 1, 1) := by decide +kernel
theorem d41_73 : decode (hs_code 41) 73 = .ok (.lload_n 3, 1) := by decide +kernel
theorem d41_74 : decode (hs_code 41) 74 = .ok (.invokevirtual 89, 3) := by decide +kernel
theorem d41_77 : decode (hs_code 41) 77 = .ok (.iload 5, 2) := by decide +kernel
theorem d41_79 : decode (hs_code 41) 79 = .ok (.ireturn, 1) := by decide +kernel
theorem d42_0 : decode (hs_code 42) 0 = .ok (.iload_n 0, 1) := by decide +kernel
theorem d42_1 : decode (hs_code 42) 1 = .ok (.tableswitch 43 59 62 #[31, 34, 40, 37], 31) := by decide +kernel
theorem d42_32 : decode (hs_code 42) 32 = .ok (.bipush 33, 2) := by decide +kernel
theorem d42_34 : decode (hs_code 42) 34 = .ok (.ireturn, 1) := by decide +kernel
theorem d42_35 : decode (hs_code 42) 35 = .ok (.bipush 34, 2) := by decide +kernel
theorem d42_37 : decode (hs_code 42) 37 = .ok (.ireturn, 1) := by decide +kernel
theorem d42_38 : decode (hs_code 42) 38 = .ok (.bipush 35, 2) := by decide +kernel
theorem d42_40 : decode (hs_code 42) 40 = .ok (.ireturn, 1) := by decide +kernel
theorem d42_41 : decode (hs_code 42) 41 = .ok (.bipush 36, 2) := by decide +kernel
theorem d42_43 : decode (hs_code 42) 43 = .ok (.ireturn, 1) := by decide +kernel
theorem d42_44 : decode (hs_code 42) 44 = .ok (.bipush 38, 2) := by decide +kernel
theorem d42_46 : decode (hs_code 42) 46 = .ok (.ireturn, 1) := by decide +kernel
theorem d43_0 : decode (hs_code 43) 0 = .ok (.aload_n 0, 1) := by decide +kernel
theorem d43_1 : decode (hs_code 43) 1 = .ok (.aload_n 1, 1) := by decide +kernel
theorem d43_2 : decode (hs_code 43) 2 = .ok (.putfield 9, 3) := by decide +kernel
theorem d43_5 : decode (hs_code 43) 5 = .ok (.aload_n 0, 1) := by decide +kernel
theorem d43_6 : decode (hs_code 43) 6 = .ok (.aload_n 2, 1) := by decide +kernel
theorem d43_7 : decode (hs_code 43) 7 = .ok (.putfield 15, 3) := by decide +kernel
theorem d43_10 : decode (hs_code 43) 10 = .ok (.aload_n 0, 1) := by decide +kernel
theorem d43_11 : decode (hs_code 43) 11 = .ok (.getfield 15, 3) := by decide +kernel
theorem d43_14 : decode (hs_code 43) 14 = .ok (.invokevirtual 19, 3) := by decide +kernel
theorem d43_17 : decode (hs_code 43) 17 = .ok (.aload_n 0, 1) := by decide +kernel
theorem d43_18 : decode (hs_code 43) 18 = .ok (.iconst 0, 1) := by decide +kernel
theorem d43_19 : decode (hs_code 43) 19 = .ok (.putfield 24, 3) := by decide +kernel
theorem d43_22 : decode (hs_code 43) 22 = .ok (.aload_n 0, 1) := by decide +kernel
theorem d43_23 : decode (hs_code 43) 23 = .ok (.iconst 0, 1) := by decide +kernel
theorem d43_24 : decode (hs_code 43) 24 = .ok (.putfield 28, 3) := by decide +kernel
theorem d43_27 : decode (hs_code 43) 27 = .ok (.iconst 0, 1) := by decide +kernel
theorem d43_28 : decode (hs_code 43) 28 = .ok (.istore_n 3, 1) := by decide +kernel
theorem d43_29 : decode (hs_code 43) 29 = .ok (.iload_n 3, 1) := by decide +kernel
theorem d43_30 : decode (hs_code 43) 30 = .ok (.sipush 900, 3) := by decide +kernel
theorem d43_33 : decode (hs_code 43) 33 = .ok (.if_icmp .gt 61, 3) := by decide +kernel
theorem d43_36 : decode (hs_code 43) 36 = .ok (.aload_n 0, 1) := by decide +kernel
theorem d43_37 : decode (hs_code 43) 37 = .ok (.getfield 9, 3) := by decide +kernel
theorem d43_40 : decode (hs_code 43) 40 = .ok (.invokevirtual 31, 3) := by decide +kernel
theorem d43_43 : decode (hs_code 43) 43 = .ok (.aload_n 0, 1) := by decide +kernel
theorem d43_44 : decode (hs_code 43) 44 = .ok (.getfield 9, 3) := by decide +kernel
theorem d43_47 : decode (hs_code 43) 47 = .ok (.getfield 36, 3) := by decide +kernel
theorem d43_50 : decode (hs_code 43) 50 = .ok (.bipush 37, 2) := by decide +kernel
theorem d43_52 : decode (hs_code 43) 52 = .ok (.if_icmp .ne 27, 3) := by decide +kernel
theorem d43_55 : decode (hs_code 43) 55 = .ok (.aload_n 0, 1) := by decide +kernel
theorem d43_56 : decode (hs_code 43) 56 = .ok (.getfield 15, 3) := by decide +kernel
theorem d43_59 : decode (hs_code 43) 59 = .ok (.aload_n 0, 1) := by decide +kernel
theorem d43_60 : decode (hs_code 43) 60 = .ok (.getfield 15, 3) := by decide +kernel
theorem d43_63 : decode (hs_code 43) 63 = .ok (.getfield 40, 3) := by decide +kernel
theorem d43_66 : decode (hs_code 43) 66 = .ok (.ifCond .le 7, 3) := by decide +kernel
theorem d43_69 : decode (hs_code 43) 69 = .ok (.iconst 0, 1) := by decide +kernel
theorem d43_70 : decode (hs_code 43) 70 = .ok (.goto 4, 3) := by decide +kernel
theorem d43_73 : decode (hs_code 43) 73 = .ok (.iconst (-1), 1) := by decide +kernel
theorem d43_74 : decode (hs_code 43) 74 = .ok (.putfield 43, 3) := by decide +kernel
theorem d43_77 : decode (hs_code 43) 77 = .ok (.iconst 1, 1) := by decide +kernel
theorem d43_78 : decode (hs_code 43) 78 = .ok (.ireturn, 1) := by decide +kernel
theorem d43_79 : decode (hs_code 43) 79 = .ok (.aload_n 0, 1) := by decide +kernel
theorem d43_80 : decode (hs_code 43) 80 = .ok (.invokevirtual 46, 3) := by decide +kernel
theorem d43_83 : decode (hs_code 43) 83 = .ok (.ifCond .ne 5, 3) := by decide +kernel
theorem d43_86 : decode (hs_code 43) 86 = .ok (.iconst 0, 1) := by decide +kernel
theorem d43_87 : decode (hs_code 43) 87 = .ok (.ireturn, 1) := by decide +kernel
theorem d43_88 : decode (hs_code 43) 88 = .ok (.iinc 3 1, 3) := by decide +kernel
theorem d43_91 : decode (hs_code 43) 91 = .ok (.goto (-62), 3) := by decide +kernel
theorem d43_94 : decode (hs_code 43) 94 = .ok (.iconst 0, 1) := by decide +kernel
theorem d43_95 : decode (hs_code 43) 95 = .ok (.ireturn, 1) := by decide +kernel
theorem d44_0 : decode (hs_code 44) 0 = .ok (.aload_n 0, 1) := by decide +kernel
theorem d44_1 : decode (hs_code 44) 1 = .ok (.getfield 69, 3) := by decide +kernel
theorem d44_4 : decode (hs_code 44) 4 = .ok (.aload_n 0, 1) := by decide +kernel
theorem d44_5 : decode (hs_code 44) 5 = .ok (.getfield 66, 3) := by decide +kernel
theorem d44_8 : decode (hs_code 44) 8 = .ok (.if_icmp .ge 52, 3) := by decide +kernel
theorem d44_11 : decode (hs_code 44) 11 = .ok (.aload_n 0, 1) := by decide +kernel
theorem d44_12 : decode (hs_code 44) 12 = .ok (.aload_n 0, 1) := by decide +kernel
theorem d44_13 : decode (hs_code 44) 13 = .ok (.getfield 19, 3) := by decide +kernel
theorem d44_16 : decode (hs_code 44) 16 = .ok (.aload_n 0, 1) := by decide +kernel
theorem d44_17 : decode (hs_code 44) 17 = .ok (.getfield 69, 3) := by decide +kernel
theorem d44_20 : decode (hs_code 44) 20 = .ok (.iaload, 1) := by decide +kernel
theorem d44_21 : decode (hs_code 44) 21 = .ok (.putfield 29, 3) := by decide +kernel
theorem d44_24 : decode (hs_code 44) 24 = .ok (.aload_n 0, 1) := by decide +kernel
theorem d44_25 : decode (hs_code 44) 25 = .ok (.aload_n 0, 1) := by decide +kernel
theorem d44_26 : decode (hs_code 44) 26 = .ok (.getfield 23, 3) := by decide +kernel
theorem d44_29 : decode (hs_code 44) 29 = .ok (.aload_n 0, 1) := by decide +kernel
theorem d44_30 : decode (hs_code 44) 30 = .ok (.getfield 69, 3) := by decide +kernel
theorem d44_33 : decode (hs_code 44) 33 = .ok (.iaload, 1) := by decide +kernel
theorem d44_34 : decode (hs_code 44) 34 = .ok (.putfield 99, 3) := by decide +kernel
theorem d44_37 : decode (hs_code 44) 37 = .ok (.aload_n 0, 1) := by decide +kernel
theorem d44_38 : decode (hs_code 44) 38 = .ok (.aload_n 0, 1) := by decide +kernel
theorem d44_39 : decode (hs_code 44) 39 = .ok (.getfield 26, 3) := by decide +kernel
theorem d44_42 : decode (hs_code 44) 42 = .ok (.aload_n 0, 1) := by decide +kernel
theorem d44_43 : decode (hs_code 44) 43 = .ok (.getfield 69, 3) := by decide +kernel
theorem d44_46 : decode (hs_code 44) 46 = .ok (.laload, 1) := by decide +kernel
theorem d44_47 : decode (hs_code 44) 47 = .ok (.putfield 102, 3) := by decide +kernel
theorem d44_50 : decode (hs_code 44) 50 = .ok (.aload_n 0, 1) := by decide +kernel
theorem d44_51 : decode (hs_code 44) 51 = .ok (.dup, 1) := by decide +kernel
theorem d44_52 : decode (hs_code 44) 52 = .ok (.getfield 69, 3) := by decide +kernel
theorem d44_55 : decode (hs_code 44) 55 = .ok (.iconst 1, 1) := by decide +kernel
theorem d44_56 : decode (hs_code 44) 56 = .ok (.iadd, 1) := by decide +kernel
theorem d44_57 : decode (hs_code 44) 57 = .ok (.putfield 69, 3) := by decide +kernel
theorem d44_60 : decode (hs_code 44) 60 = .ok (.return_, 1) := by decide +kernel
theorem d45_0 : decode (hs_code 45) 0 = .ok (.aload_n 0, 1) := by decide +kernel
theorem d45_1 : decode (hs_code 45) 1 = .ok (.getfield 9, 3) := by decide +kernel
theorem d45_4 : decode (hs_code 45) 4 = .ok (.getfield 36, 3) := by decide +kernel
theorem d45_7 : decode (hs_code 45) 7 = .ok (.tableswitch 121 0 16 #[81, 86, 91, 121, 121, 121, 121, 121, 121, 96, 121, 121, 101, 121, 106, 111, 116], 81) := by decide +kernel
theorem d45_88 : decode (hs_code 45) 88 = .ok (.aload_n 0, 1) := by decide +kernel
theorem d45_89 : decode (hs_code 45) 89 = .ok (.invokevirtual 50, 3) := by decide +kernel
theorem d45_92 : decode (hs_code 45) 92 = .ok (.ireturn, 1) := by decide +kernel
theorem d45_93 : decode (hs_code 45) 93 = .ok (.aload_n 0, 1) := by decide +kernel
theorem d45_94 : decode (hs_code 45) 94 = .ok (.invokevirtual 53, 3) := by decide +kernel
theorem d45_97 : decode (hs_code 45) 97 = .ok (.ireturn, 1) := by decide +kernel
theorem d45_98 : decode (hs_code 45) 98 = .ok (.aload_n 0, 1) := by decide +kernel
theorem d45_99 : decode (hs_code 45) 99 = .ok (.invokevirtual 56, 3) := by decide +kernel
theorem d45_102 : decode (hs_code 45) 102 = .ok (.ireturn, 1) := by decide +kernel
theorem d45_103 : decode (hs_code 45) 103 = .ok (.aload_n 0, 1) := by decide +kernel
theorem d45_104 : decode (hs_code 45) 104 = .ok (.invokevirtual 59, 3) := by decide +kernel
theorem d45_107 : decode (hs_code 45) 107 = .ok (.ireturn, 1) := by decide +kernel
theorem d45_108 : decode (hs_code 45) 108 = .ok (.aload_n 0, 1) := by decide +kernel
theorem d45_109 : decode (hs_code 45) 109 = .ok (.invokevirtual 62, 3) := by decide +kernel
theorem d45_112 : decode (hs_code 45) 112 = .ok (.ireturn, 1) := by decide +kernel
theorem d45_113 : decode (hs_code 45) 113 = .ok (.aload_n 0, 1) := by decide +kernel
theorem d45_114 : decode (hs_code 45) 114 = .ok (.invokevirtual 65, 3) := by decide +kernel
theorem d45_117 : decode (hs_code 45) 117 = .ok (.ireturn, 1) := by decide +kernel
theorem d45_118 : decode (hs_code 45) 118 = .ok (.aload_n 0, 1) := by decide +kernel
theorem d45_119 : decode (hs_code 45) 119 = .ok (.invokevirtual 68, 3) := by decide +kernel
theorem d45_122 : decode (hs_code 45) 122 = .ok (.ireturn, 1) := by decide +kernel
theorem d45_123 : decode (hs_code 45) 123 = .ok (.aload_n 0, 1) := by decide +kernel
theorem d45_124 : decode (hs_code 45) 124 = .ok (.invokevirtual 71, 3) := by decide +kernel
theorem d45_127 : decode (hs_code 45) 127 = .ok (.ireturn, 1) := by decide +kernel
theorem d45_128 : decode (hs_code 45) 128 = .ok (.aload_n 0, 1) := by decide +kernel
theorem d45_129 : decode (hs_code 45) 129 = .ok (.getfield 9, 3) := by decide +kernel
theorem d45_132 : decode (hs_code 45) 132 = .ok (.iconst 2, 1) := by decide +kernel
theorem d45_133 : decode (hs_code 45) 133 = .ok (.invokevirtual 74, 3) := by decide +kernel
theorem d45_136 : decode (hs_code 45) 136 = .ok (.ireturn, 1) := by decide +kernel
theorem d46_0 : decode (hs_code 46) 0 = .ok (.aload_n 0, 1) := by decide +kernel
theorem d46_1 : decode (hs_code 46) 1 = .ok (.getfield 24, 3) := by decide +kernel
theorem d46_4 : decode (hs_code 46) 4 = .ok (.ifCond .eq 12, 3) := by decide +kernel
theorem d46_7 : decode (hs_code 46) 7 = .ok (.aload_n 0, 1) := by decide +kernel
theorem d46_8 : decode (hs_code 46) 8 = .ok (.getfield 9, 3) := by decide +kernel
theorem d46_11 : decode (hs_code 46) 11 = .ok (.iconst 5, 1) := by decide +kernel
theorem d46_12 : decode (hs_code 46) 12 = .ok (.invokevirtual 74, 3) := by decide +kernel
theorem d46_15 : decode (hs_code 46) 15 = .ok (.ireturn, 1) := by decide +kernel
theorem d46_16 : decode (hs_code 46) 16 = .ok (.aload_n 0, 1) := by decide +kernel
theorem d46_17 : decode (hs_code 46) 17 = .ok (.iconst 1, 1) := by decide +kernel
theorem d46_18 : decode (hs_code 46) 18 = .ok (.putfield 24, 3) := by decide +kernel
theorem d46_21 : decode (hs_code 46) 21 = .ok (.aload_n 0, 1) := by decide +kernel
theorem d46_22 : decode (hs_code 46) 22 = .ok (.getfield 9, 3) := by decide +kernel
theorem d46_25 : decode (hs_code 46) 25 = .ok (.iconst 0, 1) := by decide +kernel
theorem d46_26 : decode (hs_code 46) 26 = .ok (.bipush 16, 2) := by decide +kernel
theorem d46_28 : decode (hs_code 46) 28 = .ok (.invokevirtual 78, 3) := by decide +kernel
theorem d46_31 : decode (hs_code 46) 31 = .ok (.ifCond .ne 5, 3) := by decide +kernel
theorem d46_34 : decode (hs_code 46) 34 = .ok (.iconst 0, 1) := by decide +kernel
theorem d46_35 : decode (hs_code 46) 35 = .ok (.ireturn, 1) := by decide +kernel
theorem d46_36 : decode (hs_code 46) 36 = .ok (.aload_n 0, 1) := by decide +kernel
theorem d46_37 : decode (hs_code 46) 37 = .ok (.getfield 15, 3) := by decide +kernel
theorem d46_40 : decode (hs_code 46) 40 = .ok (.aload_n 0, 1) := by decide +kernel
theorem d46_41 : decode (hs_code 46) 41 = .ok (.getfield 9, 3) := by decide +kernel
theorem d46_44 : decode (hs_code 46) 44 = .ok (.invokevirtual 82, 3) := by decide +kernel
theorem d46_47 : decode (hs_code 46) 47 = .ok (.putfield 86, 3) := by decide +kernel
theorem d46_50 : decode (hs_code 46) 50 = .ok (.aload_n 0, 1) := by decide +kernel
theorem d46_51 : decode (hs_code 46) 51 = .ok (.getfield 9, 3) := by decide +kernel
theorem d46_54 : decode (hs_code 46) 54 = .ok (.bipush 33, 2) := by decide +kernel
theorem d46_56 : decode (hs_code 46) 56 = .ok (.invokevirtual 89, 3) := by decide +kernel
theorem d46_59 : decode (hs_code 46) 59 = .ok (.ireturn, 1) := by decide +kernel
theorem d47_0 : decode (hs_code 47) 0 = .ok (.aload_n 0, 1) := by decide +kernel
theorem d47_1 : decode (hs_code 47) 1 = .ok (.aload_n 0, 1) := by decide +kernel
theorem d47_2 : decode (hs_code 47) 2 = .ok (.getfield 29, 3) := by decide +kernel
theorem d47_5 : decode (hs_code 47) 5 = .ok (.bipush 38, 2) := by decide +kernel
theorem d47_7 : decode (hs_code 47) 7 = .ok (.if_icmp .ne 7, 3) := by decide +kernel
theorem d47_10 : decode (hs_code 47) 10 = .ok (.iconst 1, 1) := by decide +kernel
theorem d47_11 : decode (hs_code 47) 11 = .ok (.goto 4, 3) := by decide +kernel
theorem d47_14 : decode (hs_code 47) 14 = .ok (.iload_n 1, 1) := by decide +kernel
theorem d47_15 : decode (hs_code 47) 15 = .ok (.putfield 33, 3) := by decide +kernel
theorem d47_18 : decode (hs_code 47) 18 = .ok (.aload_n 0, 1) := by decide +kernel
theorem d47_19 : decode (hs_code 47) 19 = .ok (.aload_n 0, 1) := by decide +kernel
theorem d47_20 : decode (hs_code 47) 20 = .ok (.getfield 99, 3) := by decide +kernel
theorem d47_23 : decode (hs_code 47) 23 = .ok (.putfield 36, 3) := by decide +kernel
theorem d47_26 : decode (hs_code 47) 26 = .ok (.iconst 0, 1) := by decide +kernel
theorem d47_27 : decode (hs_code 47) 27 = .ok (.ireturn, 1) := by decide +kernel
theorem d48_0 : decode (hs_code 48) 0 = .ok (.aload_n 0, 1) := by decide +kernel
theorem d48_1 : decode (hs_code 48) 1 = .ok (.bipush 32, 2) := by decide +kernel
theorem d48_3 : decode (hs_code 48) 3 = .ok (.invokevirtual 112, 3) := by decide +kernel
theorem d48_6 : decode (hs_code 48) 6 = .ok (.ifCond .ne 5, 3) := by decide +kernel
theorem d48_9 : decode (hs_code 48) 9 = .ok (.iconst 0, 1) := by decide +kernel
theorem d48_10 : decode (hs_code 48) 10 = .ok (.ireturn, 1) := by decide +kernel
theorem d48_11 : decode (hs_code 48) 11 = .ok (.aload_n 0, 1) := by decide +kernel
theorem d48_12 : decode (hs_code 48) 12 = .ok (.getfield 102, 3) := by decide +kernel
theorem d48_15 : decode (hs_code 48) 15 = .ok (.iload_n 1, 1) := by decide +kernel
theorem d48_16 : decode (hs_code 48) 16 = .ok (.i2l, 1) := by decide +kernel
theorem d48_17 : decode (hs_code 48) 17 = .ok (.lcmp, 1) := by decide +kernel
theorem d48_18 : decode (hs_code 48) 18 = .ok (.ifCond .lt 13, 3) := by decide +kernel
theorem d48_21 : decode (hs_code 48) 21 = .ok (.aload_n 0, 1) := by decide +kernel
theorem d48_22 : decode (hs_code 48) 22 = .ok (.getfield 102, 3) := by decide +kernel
theorem d48_25 : decode (hs_code 48) 25 = .ok (.iload_n 2, 1) := by decide +kernel
theorem d48_26 : decode (hs_code 48) 26 = .ok (.i2l, 1) := by decide +kernel
theorem d48_27 : decode (hs_code 48) 27 = .ok (.lcmp, 1) := by decide +kernel
theorem d48_28 : decode (hs_code 48) 28 = .ok (.ifCond .le 11, 3) := by decide +kernel
theorem d48_31 : decode (hs_code 48) 31 = .ok (.aload_n 0, 1) := by decide +kernel
theorem d48_32 : decode (hs_code 48) 32 = .ok (.iconst 4, 1) := by decide +kernel
theorem d48_33 : decode (hs_code 48) 33 = .ok (.invokevirtual 109, 3) := by decide +kernel
theorem d48_36 : decode (hs_code 48) 36 = .ok (.ifCond .eq 7, 3) := by decide +kernel
theorem d48_39 : decode (hs_code 48) 39 = .ok (.iconst 1, 1) := by decide +kernel
theorem d48_40 : decode (hs_code 48) 40 = .ok (.goto 4, 3) := by decide +kernel
theorem d48_43 : decode (hs_code 48) 43 = .ok (.iconst 0, 1) := by decide +kernel
theorem d48_44 : decode (hs_code 48) 44 = .ok (.ireturn, 1) := by decide +kernel
theorem d49_0 : decode (hs_code 49) 0 = .ok (.aload_n 0, 1) := by decide +kernel
theorem d49_1 : decode (hs_code 49) 1 = .ok (.invokevirtual 106, 3) := by decide +kernel
theorem d49_4 : decode (hs_code 49) 4 = .ok (.aload_n 0, 1) := by decide +kernel
theorem d49_5 : decode (hs_code 49) 5 = .ok (.getfield 29, 3) := by decide +kernel
theorem d49_8 : decode (hs_code 49) 8 = .ok (.iload_n 1, 1) := by decide +kernel
theorem d49_9 : decode (hs_code 49) 9 = .ok (.if_icmp .eq 11, 3) := by decide +kernel
theorem d49_12 : decode (hs_code 49) 12 = .ok (.aload_n 0, 1) := by decide +kernel
theorem d49_13 : decode (hs_code 49) 13 = .ok (.iconst 2, 1) := by decide +kernel
theorem d49_14 : decode (hs_code 49) 14 = .ok (.invokevirtual 109, 3) := by decide +kernel
theorem d49_17 : decode (hs_code 49) 17 = .ok (.ifCond .eq 7, 3) := by decide +kernel
theorem d49_20 : decode (hs_code 49) 20 = .ok (.iconst 1, 1) := by decide +kernel
theorem d49_21 : decode (hs_code 49) 21 = .ok (.goto 4, 3) := by decide +kernel
theorem d49_24 : decode (hs_code 49) 24 = .ok (.iconst 0, 1) := by decide +kernel
theorem d49_25 : decode (hs_code 49) 25 = .ok (.ireturn, 1) := by decide +kernel
theorem d50_0 : decode (hs_code 50) 0 = .ok (.aload_n 0, 1) := by decide +kernel
theorem d50_1 : decode (hs_code 50) 1 = .ok (.getfield 102, 3) := by decide +kernel
theorem d50_4 : decode (hs_code 50) 4 = .ok (.l2i, 1) := by decide +kernel
theorem d50_5 : decode (hs_code 50) 5 = .ok (.ireturn, 1) := by decide +kernel
theorem d51_0 : decode (hs_code 51) 0 = .ok (.aload_n 0, 1) := by decide +kernel
theorem d51_1 : decode (hs_code 51) 1 = .ok (.getfield 28, 3) := by decide +kernel
theorem d51_4 : decode (hs_code 51) 4 = .ok (.ifCond .eq 12, 3) := by decide +kernel
theorem d51_7 : decode (hs_code 51) 7 = .ok (.aload_n 0, 1) := by decide +kernel
theorem d51_8 : decode (hs_code 51) 8 = .ok (.getfield 9, 3) := by decide +kernel
theorem d51_11 : decode (hs_code 51) 11 = .ok (.iconst 5, 1) := by decide +kernel
theorem d51_12 : decode (hs_code 51) 12 = .ok (.invokevirtual 74, 3) := by decide +kernel
theorem d51_15 : decode (hs_code 51) 15 = .ok (.ireturn, 1) := by decide +kernel
theorem d51_16 : decode (hs_code 51) 16 = .ok (.aload_n 0, 1) := by decide +kernel
theorem d51_17 : decode (hs_code 51) 17 = .ok (.iconst 1, 1) := by decide +kernel
theorem d51_18 : decode (hs_code 51) 18 = .ok (.putfield 28, 3) := by decide +kernel
theorem d51_21 : decode (hs_code 51) 21 = .ok (.aload_n 0, 1) := by decide +kernel
theorem d51_22 : decode (hs_code 51) 22 = .ok (.getfield 9, 3) := by decide +kernel
theorem d51_25 : decode (hs_code 51) 25 = .ok (.iconst 1, 1) := by decide +kernel
theorem d51_26 : decode (hs_code 51) 26 = .ok (.bipush 99, 2) := by decide +kernel
theorem d51_28 : decode (hs_code 51) 28 = .ok (.invokevirtual 78, 3) := by decide +kernel
theorem d51_31 : decode (hs_code 51) 31 = .ok (.ifCond .ne 5, 3) := by decide +kernel
theorem d51_34 : decode (hs_code 51) 34 = .ok (.iconst 0, 1) := by decide +kernel
theorem d51_35 : decode (hs_code 51) 35 = .ok (.ireturn, 1) := by decide +kernel
theorem d51_36 : decode (hs_code 51) 36 = .ok (.aload_n 0, 1) := by decide +kernel
theorem d51_37 : decode (hs_code 51) 37 = .ok (.getfield 15, 3) := by decide +kernel
theorem d51_40 : decode (hs_code 51) 40 = .ok (.aload_n 0, 1) := by decide +kernel
theorem d51_41 : decode (hs_code 51) 41 = .ok (.getfield 9, 3) := by decide +kernel
theorem d51_44 : decode (hs_code 51) 44 = .ok (.invokevirtual 82, 3) := by decide +kernel
theorem d51_47 : decode (hs_code 51) 47 = .ok (.putfield 92, 3) := by decide +kernel
theorem d51_50 : decode (hs_code 51) 50 = .ok (.aload_n 0, 1) := by decide +kernel
theorem d51_51 : decode (hs_code 51) 51 = .ok (.getfield 9, 3) := by decide +kernel
theorem d51_54 : decode (hs_code 51) 54 = .ok (.bipush 33, 2) := by decide +kernel
theorem d51_56 : decode (hs_code 51) 56 = .ok (.invokevirtual 89, 3) := by decide +kernel
theorem d51_59 : decode (hs_code 51) 59 = .ok (.ireturn, 1) := by decide +kernel
theorem d52_0 : decode (hs_code 52) 0 = .ok (.aload_n 0, 1) := by decide +kernel
theorem d52_1 : decode (hs_code 52) 1 = .ok (.getfield 15, 3) := by decide +kernel
theorem d52_4 : decode (hs_code 52) 4 = .ok (.getfield 113, 3) := by decide +kernel
theorem d52_7 : decode (hs_code 52) 7 = .ok (.astore_n 1, 1) := by decide +kernel
theorem d52_8 : decode (hs_code 52) 8 = .ok (.aload_n 1, 1) := by decide +kernel
theorem d52_9 : decode (hs_code 52) 9 = .ok (.getfield 117, 3) := by decide +kernel
theorem d52_12 : decode (hs_code 52) 12 = .ok (.bipush 8, 2) := by decide +kernel
theorem d52_14 : decode (hs_code 52) 14 = .ok (.if_icmp .lt 13, 3) := by decide +kernel
theorem d52_17 : decode (hs_code 52) 17 = .ok (.aload_n 0, 1) := by decide +kernel
theorem d52_18 : decode (hs_code 52) 18 = .ok (.getfield 9, 3) := by decide +kernel
theorem d52_21 : decode (hs_code 52) 21 = .ok (.bipush 6, 2) := by decide +kernel
theorem d52_23 : decode (hs_code 52) 23 = .ok (.invokevirtual 74, 3) := by decide +kernel
theorem d52_26 : decode (hs_code 52) 26 = .ok (.ireturn, 1) := by decide +kernel
theorem d52_27 : decode (hs_code 52) 27 = .ok (.aload_n 0, 1) := by decide +kernel
theorem d52_28 : decode (hs_code 52) 28 = .ok (.iconst 2, 1) := by decide +kernel
theorem d52_29 : decode (hs_code 52) 29 = .ok (.aload_n 1, 1) := by decide +kernel
theorem d52_30 : decode (hs_code 52) 30 = .ok (.getfield 117, 3) := by decide +kernel
theorem d52_33 : decode (hs_code 52) 33 = .ok (.invokevirtual 122, 3) := by decide +kernel
theorem d52_36 : decode (hs_code 52) 36 = .ok (.ifCond .eq 14, 3) := by decide +kernel
theorem d52_39 : decode (hs_code 52) 39 = .ok (.aload_n 0, 1) := by decide +kernel
theorem d52_40 : decode (hs_code 52) 40 = .ok (.iconst 3, 1) := by decide +kernel
theorem d52_41 : decode (hs_code 52) 41 = .ok (.iconst 0, 1) := by decide +kernel
theorem d52_42 : decode (hs_code 52) 42 = .ok (.bipush 99, 2) := by decide +kernel
theorem d52_44 : decode (hs_code 52) 44 = .ok (.invokevirtual 125, 3) := by decide +kernel
theorem d52_47 : decode (hs_code 52) 47 = .ok (.ifCond .ne 5, 3) := by decide +kernel
theorem d52_50 : decode (hs_code 52) 50 = .ok (.iconst 0, 1) := by decide +kernel
theorem d52_51 : decode (hs_code 52) 51 = .ok (.ireturn, 1) := by decide +kernel
theorem d52_52 : decode (hs_code 52) 52 = .ok (.aload_n 0, 1) := by decide +kernel
theorem d52_53 : decode (hs_code 52) 53 = .ok (.getfield 9, 3) := by decide +kernel
theorem d52_56 : decode (hs_code 52) 56 = .ok (.invokevirtual 82, 3) := by decide +kernel
theorem d52_59 : decode (hs_code 52) 59 = .ok (.istore_n 2, 1) := by decide +kernel
theorem d52_60 : decode (hs_code 52) 60 = .ok (.iconst 1, 1) := by decide +kernel
theorem d52_61 : decode (hs_code 52) 61 = .ok (.istore_n 3, 1) := by decide +kernel
theorem d52_62 : decode (hs_code 52) 62 = .ok (.aload_n 0, 1) := by decide +kernel
theorem d52_63 : decode (hs_code 52) 63 = .ok (.getfield 9, 3) := by decide +kernel
theorem d52_66 : decode (hs_code 52) 66 = .ok (.invokevirtual 31, 3) := by decide +kernel
theorem d52_69 : decode (hs_code 52) 69 = .ok (.aload_n 0, 1) := by decide +kernel
theorem d52_70 : decode (hs_code 52) 70 = .ok (.getfield 9, 3) := by decide +kernel
theorem d52_73 : decode (hs_code 52) 73 = .ok (.getfield 36, 3) := by decide +kernel
theorem d52_76 : decode (hs_code 52) 76 = .ok (.iconst 4, 1) := by decide +kernel
theorem d52_77 : decode (hs_code 52) 77 = .ok (.if_icmp .ne 33, 3) := by decide +kernel
theorem d52_80 : decode (hs_code 52) 80 = .ok (.aload_n 0, 1) := by decide +kernel
theorem d52_81 : decode (hs_code 52) 81 = .ok (.getfield 9, 3) := by decide +kernel
theorem d52_84 : decode (hs_code 52) 84 = .ok (.iconst 0, 1) := by decide +kernel
theorem d52_85 : decode (hs_code 52) 85 = .ok (.bipush 9, 2) := by decide +kernel
theorem d52_87 : decode (hs_code 52) 87 = .ok (.invokevirtual 78, 3) := by decide +kernel
theorem d52_90 : decode (hs_code 52) 90 = .ok (.ifCond .ne 5, 3) := by decide +kernel
theorem d52_93 : decode (hs_code 52) 93 = .ok (.iconst 0, 1) := by decide +kernel
theorem d52_94 : decode (hs_code 52) 94 = .ok (.ireturn, 1) := by decide +kernel
theorem d52_95 : decode (hs_code 52) 95 = .ok (.aload_n 0, 1) := by decide +kernel
theorem d52_96 : decode (hs_code 52) 96 = .ok (.getfield 9, 3) := by decide +kernel
theorem d52_99 : decode (hs_code 52) 99 = .ok (.invokevirtual 82, 3) := by decide +kernel
theorem d52_102 : decode (hs_code 52) 102 = .ok (.istore_n 3, 1) := by decide +kernel
theorem d52_103 : decode (hs_code 52) 103 = .ok (.aload_n 0, 1) := by decide +kernel
theorem d52_104 : decode (hs_code 52) 104 = .ok (.getfield 9, 3) := by decide +kernel
theorem d52_107 : decode (hs_code 52) 107 = .ok (.invokevirtual 31, 3) := by decide +kernel
theorem d52_110 : decode (hs_code 52) 110 = .ok (.iconst 1, 1) := by decide +kernel
theorem d52_111 : decode (hs_code 52) 111 = .ok (.istore 4, 2) := by decide +kernel
theorem d52_113 : decode (hs_code 52) 113 = .ok (.aload_n 0, 1) := by decide +kernel
theorem d52_114 : decode (hs_code 52) 114 = .ok (.getfield 9, 3) := by decide +kernel
theorem d52_117 : decode (hs_code 52) 117 = .ok (.getfield 36, 3) := by decide +kernel
theorem d52_120 : decode (hs_code 52) 120 = .ok (.iconst 5, 1) := by decide +kernel
theorem d52_121 : decode (hs_code 52) 121 = .ok (.if_icmp .eq 15, 3) := by decide +kernel
theorem d52_124 : decode (hs_code 52) 124 = .ok (.aload_n 0, 1) := by decide +kernel
theorem d52_125 : decode (hs_code 52) 125 = .ok (.getfield 9, 3) := by decide +kernel
theorem d52_128 : decode (hs_code 52) 128 = .ok (.getfield 36, 3) := by decide +kernel
theorem d52_131 : decode (hs_code 52) 131 = .ok (.bipush 7, 2) := by decide +kernel
theorem d52_133 : decode (hs_code 52) 133 = .ok (.if_icmp .ne 22, 3) := by decide +kernel
theorem d52_136 : decode (hs_code 52) 136 = .ok (.aload_n 0, 1) := by decide +kernel
theorem d52_137 : decode (hs_code 52) 137 = .ok (.getfield 9, 3) := by decide +kernel
theorem d52_140 : decode (hs_code 52) 140 = .ok (.getfield 36, 3) := by decide +kernel
theorem d52_143 : decode (hs_code 52) 143 = .ok (.invokestatic 129, 3) := by decide +kernel
theorem d52_146 : decode (hs_code 52) 146 = .ok (.istore 4, 2) := by decide +kernel
theorem d52_148 : decode (hs_code 52) 148 = .ok (.aload_n 0, 1) := by decide +kernel
theorem d52_149 : decode (hs_code 52) 149 = .ok (.getfield 9, 3) := by decide +kernel
theorem d52_152 : decode (hs_code 52) 152 = .ok (.invokevirtual 31, 3) := by decide +kernel
theorem d52_155 : decode (hs_code 52) 155 = .ok (.aload_n 1, 1) := by decide +kernel
theorem d52_156 : decode (hs_code 52) 156 = .ok (.iload_n 2, 1) := by decide +kernel
theorem d52_157 : decode (hs_code 52) 157 = .ok (.iload_n 3, 1) := by decide +kernel
theorem d52_158 : decode (hs_code 52) 158 = .ok (.iload 4, 2) := by decide +kernel
theorem d52_160 : decode (hs_code 52) 160 = .ok (.invokevirtual 133, 3) := by decide +kernel
theorem d52_163 : decode (hs_code 52) 163 = .ok (.aload_n 0, 1) := by decide +kernel
theorem d52_164 : decode (hs_code 52) 164 = .ok (.getfield 9, 3) := by decide +kernel
theorem d52_167 : decode (hs_code 52) 167 = .ok (.getfield 36, 3) := by decide +kernel
theorem d52_170 : decode (hs_code 52) 170 = .ok (.bipush 33, 2) := by decide +kernel
theorem d52_172 : decode (hs_code 52) 172 = .ok (.if_icmp .eq 14, 3) := by decide +kernel
theorem d52_175 : decode (hs_code 52) 175 = .ok (.aload_n 0, 1) := by decide +kernel
theorem d52_176 : decode (hs_code 52) 176 = .ok (.getfield 9, 3) := by decide +kernel
theorem d52_179 : decode (hs_code 52) 179 = .ok (.iconst 2, 1) := by decide +kernel
theorem d52_180 : decode (hs_code 52) 180 = .ok (.invokevirtual 74, 3) := by decide +kernel
theorem d52_183 : decode (hs_code 52) 183 = .ok (.ifCond .eq 7, 3) := by decide +kernel
theorem d52_186 : decode (hs_code 52) 186 = .ok (.iconst 1, 1) := by decide +kernel
theorem d52_187 : decode (hs_code 52) 187 = .ok (.goto 4, 3) := by decide +kernel
theorem d52_190 : decode (hs_code 52) 190 = .ok (.iconst 0, 1) := by decide +kernel
theorem d52_191 : decode (hs_code 52) 191 = .ok (.ireturn, 1) := by decide +kernel
theorem d53_0 : decode (hs_code 53) 0 = .ok (.aload_n 0, 1) := by decide +kernel
theorem d53_1 : decode (hs_code 53) 1 = .ok (.getfield 9, 3) := by decide +kernel
theorem d53_4 : decode (hs_code 53) 4 = .ok (.bipush 30, 2) := by decide +kernel
theorem d53_6 : decode (hs_code 53) 6 = .ok (.invokevirtual 89, 3) := by decide +kernel
theorem d53_9 : decode (hs_code 53) 9 = .ok (.ifCond .ne 5, 3) := by decide +kernel
theorem d53_12 : decode (hs_code 53) 12 = .ok (.iconst 0, 1) := by decide +kernel
theorem d53_13 : decode (hs_code 53) 13 = .ok (.ireturn, 1) := by decide +kernel
theorem d53_14 : decode (hs_code 53) 14 = .ok (.aload_n 0, 1) := by decide +kernel
theorem d53_15 : decode (hs_code 53) 15 = .ok (.getfield 15, 3) := by decide +kernel
theorem d53_18 : decode (hs_code 53) 18 = .ok (.getfield 95, 3) := by decide +kernel
theorem d53_21 : decode (hs_code 53) 21 = .ok (.aload_n 0, 1) := by decide +kernel
theorem d53_22 : decode (hs_code 53) 22 = .ok (.getfield 9, 3) := by decide +kernel
theorem d53_25 : decode (hs_code 53) 25 = .ok (.getfield 99, 3) := by decide +kernel
theorem d53_28 : decode (hs_code 53) 28 = .ok (.invokevirtual 103, 3) := by decide +kernel
theorem d53_31 : decode (hs_code 53) 31 = .ok (.ifCond .eq 12, 3) := by decide +kernel
theorem d53_34 : decode (hs_code 53) 34 = .ok (.aload_n 0, 1) := by decide +kernel
theorem d53_35 : decode (hs_code 53) 35 = .ok (.getfield 9, 3) := by decide +kernel
theorem d53_38 : decode (hs_code 53) 38 = .ok (.iconst 3, 1) := by decide +kernel
theorem d53_39 : decode (hs_code 53) 39 = .ok (.invokevirtual 74, 3) := by decide +kernel
theorem d53_42 : decode (hs_code 53) 42 = .ok (.ireturn, 1) := by decide +kernel
theorem d53_43 : decode (hs_code 53) 43 = .ok (.aload_n 0, 1) := by decide +kernel
theorem d53_44 : decode (hs_code 53) 44 = .ok (.getfield 15, 3) := by decide +kernel
theorem d53_47 : decode (hs_code 53) 47 = .ok (.getfield 95, 3) := by decide +kernel
theorem d53_50 : decode (hs_code 53) 50 = .ok (.aload_n 0, 1) := by decide +kernel
theorem d53_51 : decode (hs_code 53) 51 = .ok (.getfield 9, 3) := by decide +kernel
theorem d53_54 : decode (hs_code 53) 54 = .ok (.getfield 99, 3) := by decide +kernel
theorem d53_57 : decode (hs_code 53) 57 = .ok (.iload_n 1, 1) := by decide +kernel
theorem d53_58 : decode (hs_code 53) 58 = .ok (.iload_n 2, 1) := by decide +kernel
theorem d53_59 : decode (hs_code 53) 59 = .ok (.invokevirtual 109, 3) := by decide +kernel
theorem d53_62 : decode (hs_code 53) 62 = .ok (.iconst 1, 1) := by decide +kernel
theorem d53_63 : decode (hs_code 53) 63 = .ok (.ireturn, 1) := by decide +kernel
theorem d54_0 : decode (hs_code 54) 0 = .ok (.iconst 0, 1) := by decide +kernel
theorem d54_1 : decode (hs_code 54) 1 = .ok (.istore_n 3, 1) := by decide +kernel
theorem d54_2 : decode (hs_code 54) 2 = .ok (.iload_n 3, 1) := by decide +kernel
theorem d54_3 : decode (hs_code 54) 3 = .ok (.aload_n 0, 1) := by decide +kernel
theorem d54_4 : decode (hs_code 54) 4 = .ok (.getfield 22, 3) := by decide +kernel
theorem d54_7 : decode (hs_code 54) 7 = .ok (.if_icmp .ge 22, 3) := by decide +kernel
theorem d54_10 : decode (hs_code 54) 10 = .ok (.aload_n 0, 1) := by decide +kernel
theorem d54_11 : decode (hs_code 54) 11 = .ok (.getfield 9, 3) := by decide +kernel
theorem d54_14 : decode (hs_code 54) 14 = .ok (.iload_n 3, 1) := by decide +kernel
theorem d54_15 : decode (hs_code 54) 15 = .ok (.laload, 1) := by decide +kernel
theorem d54_16 : decode (hs_code 54) 16 = .ok (.lload_n 1, 1) := by decide +kernel
theorem d54_17 : decode (hs_code 54) 17 = .ok (.lcmp, 1) := by decide +kernel
theorem d54_18 : decode (hs_code 54) 18 = .ok (.ifCond .ne 5, 3) := by decide +kernel
theorem d54_21 : decode (hs_code 54) 21 = .ok (.iconst 1, 1) := by decide +kernel
theorem d54_22 : decode (hs_code 54) 22 = .ok (.ireturn, 1) := by decide +kernel
theorem d54_23 : decode (hs_code 54) 23 = .ok (.iinc 3 1, 3) := by decide +kernel
theorem d54_26 : decode (hs_code 54) 26 = .ok (.goto (-24), 3) := by decide +kernel
theorem d54_29 : decode (hs_code 54) 29 = .ok (.iconst 0, 1) := by decide +kernel
theorem d54_30 : decode (hs_code 54) 30 = .ok (.ireturn, 1) := by decide +kernel
theorem d55_0 : decode (hs_code 55) 0 = .ok (.aload_n 0, 1) := by decide +kernel
theorem d55_1 : decode (hs_code 55) 1 = .ok (.getfield 22, 3) := by decide +kernel
theorem d55_4 : decode (hs_code 55) 4 = .ok (.bipush 31, 2) := by decide +kernel
theorem d55_6 : decode (hs_code 55) 6 = .ok (.if_icmp .ge 44, 3) := by decide +kernel
theorem d55_9 : decode (hs_code 55) 9 = .ok (.aload_n 0, 1) := by decide +kernel
theorem d55_10 : decode (hs_code 55) 10 = .ok (.getfield 9, 3) := by decide +kernel
theorem d55_13 : decode (hs_code 55) 13 = .ok (.aload_n 0, 1) := by decide +kernel
theorem d55_14 : decode (hs_code 55) 14 = .ok (.getfield 22, 3) := by decide +kernel
theorem d55_17 : decode (hs_code 55) 17 = .ok (.lload_n 1, 1) := by decide +kernel
theorem d55_18 : decode (hs_code 55) 18 = .ok (.lastore, 1) := by decide +kernel
theorem d55_19 : decode (hs_code 55) 19 = .ok (.aload_n 0, 1) := by decide +kernel
theorem d55_20 : decode (hs_code 55) 20 = .ok (.getfield 15, 3) := by decide +kernel
theorem d55_23 : decode (hs_code 55) 23 = .ok (.aload_n 0, 1) := by decide +kernel
theorem d55_24 : decode (hs_code 55) 24 = .ok (.getfield 22, 3) := by decide +kernel
theorem d55_27 : decode (hs_code 55) 27 = .ok (.iload_n 3, 1) := by decide +kernel
theorem d55_28 : decode (hs_code 55) 28 = .ok (.iastore, 1) := by decide +kernel
theorem d55_29 : decode (hs_code 55) 29 = .ok (.aload_n 0, 1) := by decide +kernel
theorem d55_30 : decode (hs_code 55) 30 = .ok (.getfield 19, 3) := by decide +kernel
theorem d55_33 : decode (hs_code 55) 33 = .ok (.aload_n 0, 1) := by decide +kernel
theorem d55_34 : decode (hs_code 55) 34 = .ok (.getfield 22, 3) := by decide +kernel
theorem d55_37 : decode (hs_code 55) 37 = .ok (.iload 4, 2) := by decide +kernel
theorem d55_39 : decode (hs_code 55) 39 = .ok (.iastore, 1) := by decide +kernel
theorem d55_40 : decode (hs_code 55) 40 = .ok (.aload_n 0, 1) := by decide +kernel
theorem d55_41 : decode (hs_code 55) 41 = .ok (.dup, 1) := by decide +kernel
theorem d55_42 : decode (hs_code 55) 42 = .ok (.getfield 22, 3) := by decide +kernel
theorem d55_45 : decode (hs_code 55) 45 = .ok (.iconst 1, 1) := by decide +kernel
theorem d55_46 : decode (hs_code 55) 46 = .ok (.iadd, 1) := by decide +kernel
theorem d55_47 : decode (hs_code 55) 47 = .ok (.putfield 22, 3) := by decide +kernel
theorem d55_50 : decode (hs_code 55) 50 = .ok (.return_, 1) := by decide +kernel
theorem d56_0 : decode (hs_code 56) 0 = .ok (.aload_n 0, 1) := by decide +kernel
theorem d56_1 : decode (hs_code 56) 1 = .ok (.getfield 9, 3) := by decide +kernel
theorem d56_4 : decode (hs_code 56) 4 = .ok (.iload_n 1, 1) := by decide +kernel
theorem d56_5 : decode (hs_code 56) 5 = .ok (.invokevirtual 89, 3) := by decide +kernel
theorem d56_8 : decode (hs_code 56) 8 = .ok (.ifCond .eq 19, 3) := by decide +kernel
theorem d56_11 : decode (hs_code 56) 11 = .ok (.aload_n 0, 1) := by decide +kernel
theorem d56_12 : decode (hs_code 56) 12 = .ok (.getfield 9, 3) := by decide +kernel
theorem d56_15 : decode (hs_code 56) 15 = .ok (.iload_n 2, 1) := by decide +kernel
theorem d56_16 : decode (hs_code 56) 16 = .ok (.iload_n 3, 1) := by decide +kernel
theorem d56_17 : decode (hs_code 56) 17 = .ok (.invokevirtual 78, 3) := by decide +kernel
theorem d56_20 : decode (hs_code 56) 20 = .ok (.ifCond .eq 7, 3) := by decide +kernel
theorem d56_23 : decode (hs_code 56) 23 = .ok (.iconst 1, 1) := by decide +kernel
theorem d56_24 : decode (hs_code 56) 24 = .ok (.goto 4, 3) := by decide +kernel
theorem d56_27 : decode (hs_code 56) 27 = .ok (.iconst 0, 1) := by decide +kernel
theorem d56_28 : decode (hs_code 56) 28 = .ok (.ireturn, 1) := by decide +kernel
theorem d57_0 : decode (hs_code 57) 0 = .ok (.iload_n 0, 1) := by decide +kernel
theorem d57_1 : decode (hs_code 57) 1 = .ok (.tableswitch 39 5 8 #[31, 33, 35, 37], 31) := by decide +kernel
theorem d57_32 : decode (hs_code 57) 32 = .ok (.iconst 2, 1) := by decide +kernel
theorem d57_33 : decode (hs_code 57) 33 = .ok (.ireturn, 1) := by decide +kernel
theorem d57_34 : decode (hs_code 57) 34 = .ok (.iconst 1, 1) := by decide +kernel
theorem d57_35 : decode (hs_code 57) 35 = .ok (.ireturn, 1) := by decide +kernel
theorem d57_36 : decode (hs_code 57) 36 = .ok (.iconst 0, 1) := by decide +kernel
theorem d57_37 : decode (hs_code 57) 37 = .ok (.ireturn, 1) := by decide +kernel
theorem d57_38 : decode (hs_code 57) 38 = .ok (.iconst 3, 1) := by decide +kernel
theorem d57_39 : decode (hs_code 57) 39 = .ok (.ireturn, 1) := by decide +kernel
theorem d57_40 : decode (hs_code 57) 40 = .ok (.iconst (-1), 1) := by decide +kernel
theorem d57_41 : decode (hs_code 57) 41 = .ok (.ireturn, 1) := by decide +kernel
theorem d58_0 : decode (hs_code 58) 0 = .ok (.aload_n 0, 1) := by decide +kernel
theorem d58_1 : decode (hs_code 58) 1 = .ok (.getfield 24, 3) := by decide +kernel
theorem d58_4 : decode (hs_code 58) 4 = .ok (.bipush 8, 2) := by decide +kernel
theorem d58_6 : decode (hs_code 58) 6 = .ok (.if_icmp .ge 53, 3) := by decide +kernel
theorem d58_9 : decode (hs_code 58) 9 = .ok (.aload_n 0, 1) := by decide +kernel
theorem d58_10 : decode (hs_code 58) 10 = .ok (.getfield 9, 3) := by decide +kernel
theorem d58_13 : decode (hs_code 58) 13 = .ok (.aload_n 0, 1) := by decide +kernel
theorem d58_14 : decode (hs_code 58) 14 = .ok (.getfield 24, 3) := by decide +kernel
theorem d58_17 : decode (hs_code 58) 17 = .ok (.iload_n 1, 1) := by decide +kernel
theorem d58_18 : decode (hs_code 58) 18 = .ok (.iastore, 1) := by decide +kernel
theorem d58_19 : decode (hs_code 58) 19 = .ok (.aload_n 0, 1) := by decide +kernel
theorem d58_20 : decode (hs_code 58) 20 = .ok (.getfield 15, 3) := by decide +kernel
theorem d58_23 : decode (hs_code 58) 23 = .ok (.aload_n 0, 1) := by decide +kernel
theorem d58_24 : decode (hs_code 58) 24 = .ok (.getfield 24, 3) := by decide +kernel
theorem d58_27 : decode (hs_code 58) 27 = .ok (.iload_n 2, 1) := by decide +kernel
theorem d58_28 : decode (hs_code 58) 28 = .ok (.iastore, 1) := by decide +kernel
theorem d58_29 : decode (hs_code 58) 29 = .ok (.aload_n 0, 1) := by decide +kernel
theorem d58_30 : decode (hs_code 58) 30 = .ok (.getfield 18, 3) := by decide +kernel
theorem d58_33 : decode (hs_code 58) 33 = .ok (.aload_n 0, 1) := by decide +kernel
theorem d58_34 : decode (hs_code 58) 34 = .ok (.getfield 24, 3) := by decide +kernel
theorem d58_37 : decode (hs_code 58) 37 = .ok (.iload_n 3, 1) := by decide +kernel
theorem d58_38 : decode (hs_code 58) 38 = .ok (.iastore, 1) := by decide +kernel
theorem d58_39 : decode (hs_code 58) 39 = .ok (.aload_n 0, 1) := by decide +kernel
theorem d58_40 : decode (hs_code 58) 40 = .ok (.getfield 21, 3) := by decide +kernel
theorem d58_43 : decode (hs_code 58) 43 = .ok (.aload_n 0, 1) := by decide +kernel
theorem d58_44 : decode (hs_code 58) 44 = .ok (.getfield 24, 3) := by decide +kernel
theorem d58_47 : decode (hs_code 58) 47 = .ok (.iconst 0, 1) := by decide +kernel
theorem d58_48 : decode (hs_code 58) 48 = .ok (.iastore, 1) := by decide +kernel
theorem d58_49 : decode (hs_code 58) 49 = .ok (.aload_n 0, 1) := by decide +kernel
theorem d58_50 : decode (hs_code 58) 50 = .ok (.dup, 1) := by decide +kernel
theorem d58_51 : decode (hs_code 58) 51 = .ok (.getfield 24, 3) := by decide +kernel
theorem d58_54 : decode (hs_code 58) 54 = .ok (.iconst 1, 1) := by decide +kernel
theorem d58_55 : decode (hs_code 58) 55 = .ok (.iadd, 1) := by decide +kernel
theorem d58_56 : decode (hs_code 58) 56 = .ok (.putfield 24, 3) := by decide +kernel
theorem d58_59 : decode (hs_code 58) 59 = .ok (.return_, 1) := by decide +kernel
theorem d59_0 : decode (hs_code 59) 0 = .ok (.aload_n 0, 1) := by decide +kernel
theorem d59_1 : decode (hs_code 59) 1 = .ok (.getfield 15, 3) := by decide +kernel
theorem d59_4 : decode (hs_code 59) 4 = .ok (.getfield 136, 3) := by decide +kernel
theorem d59_7 : decode (hs_code 59) 7 = .ok (.istore_n 1, 1) := by decide +kernel
theorem d59_8 : decode (hs_code 59) 8 = .ok (.iload_n 1, 1) := by decide +kernel
theorem d59_9 : decode (hs_code 59) 9 = .ok (.iconst 5, 1) := by decide +kernel
theorem d59_10 : decode (hs_code 59) 10 = .ok (.if_icmp .lt 13, 3) := by decide +kernel
theorem d59_13 : decode (hs_code 59) 13 = .ok (.aload_n 0, 1) := by decide +kernel
theorem d59_14 : decode (hs_code 59) 14 = .ok (.getfield 9, 3) := by decide +kernel
theorem d59_17 : decode (hs_code 59) 17 = .ok (.bipush 6, 2) := by decide +kernel
theorem d59_19 : decode (hs_code 59) 19 = .ok (.invokevirtual 74, 3) := by decide +kernel
theorem d59_22 : decode (hs_code 59) 22 = .ok (.ireturn, 1) := by decide +kernel
theorem d59_23 : decode (hs_code 59) 23 = .ok (.aload_n 0, 1) := by decide +kernel
theorem d59_24 : decode (hs_code 59) 24 = .ok (.bipush 9, 2) := by decide +kernel
theorem d59_26 : decode (hs_code 59) 26 = .ok (.iload_n 1, 1) := by decide +kernel
theorem d59_27 : decode (hs_code 59) 27 = .ok (.invokevirtual 122, 3) := by decide +kernel
theorem d59_30 : decode (hs_code 59) 30 = .ok (.ifCond .eq 15, 3) := by decide +kernel
theorem d59_33 : decode (hs_code 59) 33 = .ok (.aload_n 0, 1) := by decide +kernel
theorem d59_34 : decode (hs_code 59) 34 = .ok (.bipush 10, 2) := by decide +kernel
theorem d59_36 : decode (hs_code 59) 36 = .ok (.iconst 1, 1) := by decide +kernel
theorem d59_37 : decode (hs_code 59) 37 = .ok (.bipush 99, 2) := by decide +kernel
theorem d59_39 : decode (hs_code 59) 39 = .ok (.invokevirtual 125, 3) := by decide +kernel
theorem d59_42 : decode (hs_code 59) 42 = .ok (.ifCond .ne 5, 3) := by decide +kernel
theorem d59_45 : decode (hs_code 59) 45 = .ok (.iconst 0, 1) := by decide +kernel
theorem d59_46 : decode (hs_code 59) 46 = .ok (.ireturn, 1) := by decide +kernel
theorem d59_47 : decode (hs_code 59) 47 = .ok (.aload_n 0, 1) := by decide +kernel
theorem d59_48 : decode (hs_code 59) 48 = .ok (.getfield 15, 3) := by decide +kernel
theorem d59_51 : decode (hs_code 59) 51 = .ok (.getfield 139, 3) := by decide +kernel
theorem d59_54 : decode (hs_code 59) 54 = .ok (.iload_n 1, 1) := by decide +kernel
theorem d59_55 : decode (hs_code 59) 55 = .ok (.aload_n 0, 1) := by decide +kernel
theorem d59_56 : decode (hs_code 59) 56 = .ok (.getfield 9, 3) := by decide +kernel
theorem d59_59 : decode (hs_code 59) 59 = .ok (.invokevirtual 82, 3) := by decide +kernel
theorem d59_62 : decode (hs_code 59) 62 = .ok (.iastore, 1) := by decide +kernel
theorem d59_63 : decode (hs_code 59) 63 = .ok (.aload_n 0, 1) := by decide +kernel
theorem d59_64 : decode (hs_code 59) 64 = .ok (.bipush 11, 2) := by decide +kernel
theorem d59_66 : decode (hs_code 59) 66 = .ok (.iconst 0, 1) := by decide +kernel
theorem d59_67 : decode (hs_code 59) 67 = .ok (.bipush 99, 2) := by decide +kernel
theorem d59_69 : decode (hs_code 59) 69 = .ok (.invokevirtual 125, 3) := by decide +kernel
theorem d59_72 : decode (hs_code 59) 72 = .ok (.ifCond .ne 5, 3) := by decide +kernel
theorem d59_75 : decode (hs_code 59) 75 = .ok (.iconst 0, 1) := by decide +kernel
theorem d59_76 : decode (hs_code 59) 76 = .ok (.ireturn, 1) := by decide +kernel
theorem d59_77 : decode (hs_code 59) 77 = .ok (.aload_n 0, 1) := by decide +kernel
theorem d59_78 : decode (hs_code 59) 78 = .ok (.getfield 15, 3) := by decide +kernel
theorem d59_81 : decode (hs_code 59) 81 = .ok (.getfield 143, 3) := by decide +kernel
theorem d59_84 : decode (hs_code 59) 84 = .ok (.iload_n 1, 1) := by decide +kernel
theorem d59_85 : decode (hs_code 59) 85 = .ok (.aload_n 0, 1) := by decide +kernel
theorem d59_86 : decode (hs_code 59) 86 = .ok (.getfield 9, 3) := by decide +kernel
theorem d59_89 : decode (hs_code 59) 89 = .ok (.invokevirtual 82, 3) := by decide +kernel
theorem d59_92 : decode (hs_code 59) 92 = .ok (.iastore, 1) := by decide +kernel
theorem d59_93 : decode (hs_code 59) 93 = .ok (.aload_n 0, 1) := by decide +kernel
theorem d59_94 : decode (hs_code 59) 94 = .ok (.getfield 15, 3) := by decide +kernel
theorem d59_97 : decode (hs_code 59) 97 = .ok (.dup, 1) := by decide +kernel
theorem d59_98 : decode (hs_code 59) 98 = .ok (.getfield 136, 3) := by decide +kernel
theorem d59_101 : decode (hs_code 59) 101 = .ok (.iconst 1, 1) := by decide +kernel
theorem d59_102 : decode (hs_code 59) 102 = .ok (.iadd, 1) := by decide +kernel
theorem d59_103 : decode (hs_code 59) 103 = .ok (.putfield 136, 3) := by decide +kernel
theorem d59_106 : decode (hs_code 59) 106 = .ok (.aload_n 0, 1) := by decide +kernel
theorem d59_107 : decode (hs_code 59) 107 = .ok (.getfield 9, 3) := by decide +kernel
theorem d59_110 : decode (hs_code 59) 110 = .ok (.bipush 33, 2) := by decide +kernel
theorem d59_112 : decode (hs_code 59) 112 = .ok (.invokevirtual 89, 3) := by decide +kernel
theorem d59_115 : decode (hs_code 59) 115 = .ok (.ireturn, 1) := by decide +kernel
theorem d60_0 : decode (hs_code 60) 0 = .ok (.aload_n 0, 1) := by decide +kernel
theorem d60_1 : decode (hs_code 60) 1 = .ok (.getfield 15, 3) := by decide +kernel
theorem d60_4 : decode (hs_code 60) 4 = .ok (.getfield 40, 3) := by decide +kernel
theorem d60_7 : decode (hs_code 60) 7 = .ok (.istore_n 1, 1) := by decide +kernel
theorem d60_8 : decode (hs_code 60) 8 = .ok (.iload_n 1, 1) := by decide +kernel
theorem d60_9 : decode (hs_code 60) 9 = .ok (.bipush 6, 2) := by decide +kernel
theorem d60_11 : decode (hs_code 60) 11 = .ok (.if_icmp .lt 13, 3) := by decide +kernel
theorem d60_14 : decode (hs_code 60) 14 = .ok (.aload_n 0, 1) := by decide +kernel
theorem d60_15 : decode (hs_code 60) 15 = .ok (.getfield 9, 3) := by decide +kernel
theorem d60_18 : decode (hs_code 60) 18 = .ok (.bipush 6, 2) := by decide +kernel
theorem d60_20 : decode (hs_code 60) 20 = .ok (.invokevirtual 74, 3) := by decide +kernel
theorem d60_23 : decode (hs_code 60) 23 = .ok (.ireturn, 1) := by decide +kernel
theorem d60_24 : decode (hs_code 60) 24 = .ok (.aload_n 0, 1) := by decide +kernel
theorem d60_25 : decode (hs_code 60) 25 = .ok (.bipush 12, 2) := by decide +kernel
theorem d60_27 : decode (hs_code 60) 27 = .ok (.iload_n 1, 1) := by decide +kernel
theorem d60_28 : decode (hs_code 60) 28 = .ok (.invokevirtual 122, 3) := by decide +kernel
theorem d60_31 : decode (hs_code 60) 31 = .ok (.ifCond .eq 15, 3) := by decide +kernel
theorem d60_34 : decode (hs_code 60) 34 = .ok (.aload_n 0, 1) := by decide +kernel
theorem d60_35 : decode (hs_code 60) 35 = .ok (.bipush 13, 2) := by decide +kernel
theorem d60_37 : decode (hs_code 60) 37 = .ok (.iconst 0, 1) := by decide +kernel
theorem d60_38 : decode (hs_code 60) 38 = .ok (.bipush 9, 2) := by decide +kernel
theorem d60_40 : decode (hs_code 60) 40 = .ok (.invokevirtual 125, 3) := by decide +kernel
theorem d60_43 : decode (hs_code 60) 43 = .ok (.ifCond .ne 5, 3) := by decide +kernel
theorem d60_46 : decode (hs_code 60) 46 = .ok (.iconst 0, 1) := by decide +kernel
theorem d60_47 : decode (hs_code 60) 47 = .ok (.ireturn, 1) := by decide +kernel
theorem d60_48 : decode (hs_code 60) 48 = .ok (.aload_n 0, 1) := by decide +kernel
theorem d60_49 : decode (hs_code 60) 49 = .ok (.getfield 15, 3) := by decide +kernel
theorem d60_52 : decode (hs_code 60) 52 = .ok (.getfield 146, 3) := by decide +kernel
theorem d60_55 : decode (hs_code 60) 55 = .ok (.iload_n 1, 1) := by decide +kernel
theorem d60_56 : decode (hs_code 60) 56 = .ok (.aload_n 0, 1) := by decide +kernel
theorem d60_57 : decode (hs_code 60) 57 = .ok (.getfield 9, 3) := by decide +kernel
theorem d60_60 : decode (hs_code 60) 60 = .ok (.invokevirtual 82, 3) := by decide +kernel
theorem d60_63 : decode (hs_code 60) 63 = .ok (.iastore, 1) := by decide +kernel
theorem d60_64 : decode (hs_code 60) 64 = .ok (.aload_n 0, 1) := by decide +kernel
theorem d60_65 : decode (hs_code 60) 65 = .ok (.getfield 15, 3) := by decide +kernel
theorem d60_68 : decode (hs_code 60) 68 = .ok (.dup, 1) := by decide +kernel
theorem d60_69 : decode (hs_code 60) 69 = .ok (.getfield 40, 3) := by decide +kernel
theorem d60_72 : decode (hs_code 60) 72 = .ok (.iconst 1, 1) := by decide +kernel
theorem d60_73 : decode (hs_code 60) 73 = .ok (.iadd, 1) := by decide +kernel
theorem d60_74 : decode (hs_code 60) 74 = .ok (.putfield 40, 3) := by decide +kernel
theorem d60_77 : decode (hs_code 60) 77 = .ok (.aload_n 0, 1) := by decide +kernel
theorem d60_78 : decode (hs_code 60) 78 = .ok (.getfield 9, 3) := by decide +kernel
theorem d60_81 : decode (hs_code 60) 81 = .ok (.bipush 33, 2) := by decide +kernel
theorem d60_83 : decode (hs_code 60) 83 = .ok (.invokevirtual 89, 3) := by decide +kernel
theorem d60_86 : decode (hs_code 60) 86 = .ok (.ireturn, 1) := by decide +kernel
theorem d61_0 : decode (hs_code 61) 0 = .ok (.aload_n 0, 1) := by decide +kernel
theorem d61_1 : decode (hs_code 61) 1 = .ok (.getfield 15, 3) := by decide +kernel
theorem d61_4 : decode (hs_code 61) 4 = .ok (.getfield 149, 3) := by decide +kernel
theorem d61_7 : decode (hs_code 61) 7 = .ok (.istore_n 1, 1) := by decide +kernel
theorem d61_8 : decode (hs_code 61) 8 = .ok (.iload_n 1, 1) := by decide +kernel
theorem d61_9 : decode (hs_code 61) 9 = .ok (.bipush 6, 2) := by decide +kernel
theorem d61_11 : decode (hs_code 61) 11 = .ok (.if_icmp .lt 13, 3) := by decide +kernel
theorem d61_14 : decode (hs_code 61) 14 = .ok (.aload_n 0, 1) := by decide +kernel
theorem d61_15 : decode (hs_code 61) 15 = .ok (.getfield 9, 3) := by decide +kernel
theorem d61_18 : decode (hs_code 61) 18 = .ok (.bipush 6, 2) := by decide +kernel
theorem d61_20 : decode (hs_code 61) 20 = .ok (.invokevirtual 74, 3) := by decide +kernel
theorem d61_23 : decode (hs_code 61) 23 = .ok (.ireturn, 1) := by decide +kernel
theorem d61_24 : decode (hs_code 61) 24 = .ok (.aload_n 0, 1) := by decide +kernel
theorem d61_25 : decode (hs_code 61) 25 = .ok (.bipush 14, 2) := by decide +kernel
theorem d61_27 : decode (hs_code 61) 27 = .ok (.iload_n 1, 1) := by decide +kernel
theorem d61_28 : decode (hs_code 61) 28 = .ok (.invokevirtual 122, 3) := by decide +kernel
theorem d61_31 : decode (hs_code 61) 31 = .ok (.ifCond .ne 5, 3) := by decide +kernel
theorem d61_34 : decode (hs_code 61) 34 = .ok (.iconst 0, 1) := by decide +kernel
theorem d61_35 : decode (hs_code 61) 35 = .ok (.ireturn, 1) := by decide +kernel
theorem d61_36 : decode (hs_code 61) 36 = .ok (.aload_n 0, 1) := by decide +kernel
theorem d61_37 : decode (hs_code 61) 37 = .ok (.getfield 15, 3) := by decide +kernel
theorem d61_40 : decode (hs_code 61) 40 = .ok (.dup, 1) := by decide +kernel
theorem d61_41 : decode (hs_code 61) 41 = .ok (.getfield 149, 3) := by decide +kernel
theorem d61_44 : decode (hs_code 61) 44 = .ok (.iconst 1, 1) := by decide +kernel
theorem d61_45 : decode (hs_code 61) 45 = .ok (.iadd, 1) := by decide +kernel
theorem d61_46 : decode (hs_code 61) 46 = .ok (.putfield 149, 3) := by decide +kernel
theorem d61_49 : decode (hs_code 61) 49 = .ok (.iconst 0, 1) := by decide +kernel
theorem d61_50 : decode (hs_code 61) 50 = .ok (.istore_n 2, 1) := by decide +kernel
theorem d61_51 : decode (hs_code 61) 51 = .ok (.iload_n 2, 1) := by decide +kernel
theorem d61_52 : decode (hs_code 61) 52 = .ok (.bipush 8, 2) := by decide +kernel
theorem d61_54 : decode (hs_code 61) 54 = .ok (.if_icmp .gt 88, 3) := by decide +kernel
theorem d61_57 : decode (hs_code 61) 57 = .ok (.aload_n 0, 1) := by decide +kernel
theorem d61_58 : decode (hs_code 61) 58 = .ok (.getfield 9, 3) := by decide +kernel
theorem d61_61 : decode (hs_code 61) 61 = .ok (.invokevirtual 31, 3) := by decide +kernel
theorem d61_64 : decode (hs_code 61) 64 = .ok (.aload_n 0, 1) := by decide +kernel
theorem d61_65 : decode (hs_code 61) 65 = .ok (.getfield 9, 3) := by decide +kernel
theorem d61_68 : decode (hs_code 61) 68 = .ok (.getfield 36, 3) := by decide +kernel
theorem d61_71 : decode (hs_code 61) 71 = .ok (.bipush 33, 2) := by decide +kernel
theorem d61_73 : decode (hs_code 61) 73 = .ok (.if_icmp .ne 5, 3) := by decide +kernel
theorem d61_76 : decode (hs_code 61) 76 = .ok (.iconst 1, 1) := by decide +kernel
theorem d61_77 : decode (hs_code 61) 77 = .ok (.ireturn, 1) := by decide +kernel
theorem d61_78 : decode (hs_code 61) 78 = .ok (.aload_n 0, 1) := by decide +kernel
theorem d61_79 : decode (hs_code 61) 79 = .ok (.getfield 9, 3) := by decide +kernel
theorem d61_82 : decode (hs_code 61) 82 = .ok (.getfield 36, 3) := by decide +kernel
theorem d61_85 : decode (hs_code 61) 85 = .ok (.invokestatic 129, 3) := by decide +kernel
theorem d61_88 : decode (hs_code 61) 88 = .ok (.istore_n 3, 1) := by decide +kernel
theorem d61_89 : decode (hs_code 61) 89 = .ok (.iload_n 3, 1) := by decide +kernel
theorem d61_90 : decode (hs_code 61) 90 = .ok (.ifCond .ge 12, 3) := by decide +kernel
theorem d61_93 : decode (hs_code 61) 93 = .ok (.aload_n 0, 1) := by decide +kernel
theorem d61_94 : decode (hs_code 61) 94 = .ok (.getfield 9, 3) := by decide +kernel
theorem d61_97 : decode (hs_code 61) 97 = .ok (.iconst 2, 1) := by decide +kernel
theorem d61_98 : decode (hs_code 61) 98 = .ok (.invokevirtual 74, 3) := by decide +kernel
theorem d61_101 : decode (hs_code 61) 101 = .ok (.ireturn, 1) := by decide +kernel
theorem d61_102 : decode (hs_code 61) 102 = .ok (.iload_n 2, 1) := by decide +kernel
theorem d61_103 : decode (hs_code 61) 103 = .ok (.aload_n 0, 1) := by decide +kernel
theorem d61_104 : decode (hs_code 61) 104 = .ok (.getfield 15, 3) := by decide +kernel
theorem d61_107 : decode (hs_code 61) 107 = .ok (.getfield 113, 3) := by decide +kernel
theorem d61_110 : decode (hs_code 61) 110 = .ok (.getfield 117, 3) := by decide +kernel
theorem d61_113 : decode (hs_code 61) 113 = .ok (.if_icmp .lt 13, 3) := by decide +kernel
theorem d61_116 : decode (hs_code 61) 116 = .ok (.aload_n 0, 1) := by decide +kernel
theorem d61_117 : decode (hs_code 61) 117 = .ok (.getfield 9, 3) := by decide +kernel
theorem d61_120 : decode (hs_code 61) 120 = .ok (.bipush 6, 2) := by decide +kernel
theorem d61_122 : decode (hs_code 61) 122 = .ok (.invokevirtual 74, 3) := by decide +kernel
theorem d61_125 : decode (hs_code 61) 125 = .ok (.ireturn, 1) := by decide +kernel
theorem d61_126 : decode (hs_code 61) 126 = .ok (.aload_n 0, 1) := by decide +kernel
theorem d61_127 : decode (hs_code 61) 127 = .ok (.getfield 15, 3) := by decide +kernel
theorem d61_130 : decode (hs_code 61) 130 = .ok (.iload_n 1, 1) := by decide +kernel
theorem d61_131 : decode (hs_code 61) 131 = .ok (.iload_n 2, 1) := by decide +kernel
theorem d61_132 : decode (hs_code 61) 132 = .ok (.iload_n 3, 1) := by decide +kernel
theorem d61_133 : decode (hs_code 61) 133 = .ok (.invokevirtual 152, 3) := by decide +kernel
theorem d61_136 : decode (hs_code 61) 136 = .ok (.iinc 2 1, 3) := by decide +kernel
theorem d61_139 : decode (hs_code 61) 139 = .ok (.goto (-88), 3) := by decide +kernel
theorem d61_142 : decode (hs_code 61) 142 = .ok (.iconst 0, 1) := by decide +kernel
theorem d61_143 : decode (hs_code 61) 143 = .ok (.ireturn, 1) := by decide +kernel
theorem d62_0 : decode (hs_code 62) 0 = .ok (.aload_n 0, 1) := by decide +kernel
theorem d62_1 : decode (hs_code 62) 1 = .ok (.getfield 35, 3) := by decide +kernel
theorem d62_4 : decode (hs_code 62) 4 = .ok (.iload_n 1, 1) := by decide +kernel
theorem d62_5 : decode (hs_code 62) 5 = .ok (.bipush 8, 2) := by decide +kernel
theorem d62_7 : decode (hs_code 62) 7 = .ok (.imul, 1) := by decide +kernel
theorem d62_8 : decode (hs_code 62) 8 = .ok (.iload_n 2, 1) := by decide +kernel
theorem d62_9 : decode (hs_code 62) 9 = .ok (.iadd, 1) := by decide +kernel
theorem d62_10 : decode (hs_code 62) 10 = .ok (.iload_n 3, 1) := by decide +kernel
theorem d62_11 : decode (hs_code 62) 11 = .ok (.iastore, 1) := by decide +kernel
theorem d62_12 : decode (hs_code 62) 12 = .ok (.return_, 1) := by decide +kernel
theorem d63_0 : decode (hs_code 63) 0 = .ok (.aload_n 0, 1) := by decide +kernel
theorem d63_1 : decode (hs_code 63) 1 = .ok (.getfield 15, 3) := by decide +kernel
theorem d63_4 : decode (hs_code 63) 4 = .ok (.getfield 155, 3) := by decide +kernel
theorem d63_7 : decode (hs_code 63) 7 = .ok (.bipush 6, 2) := by decide +kernel
theorem d63_9 : decode (hs_code 63) 9 = .ok (.if_icmp .lt 13, 3) := by decide +kernel
theorem d63_12 : decode (hs_code 63) 12 = .ok (.aload_n 0, 1) := by decide +kernel
theorem d63_13 : decode (hs_code 63) 13 = .ok (.getfield 9, 3) := by decide +kernel
theorem d63_16 : decode (hs_code 63) 16 = .ok (.bipush 6, 2) := by decide +kernel
theorem d63_18 : decode (hs_code 63) 18 = .ok (.invokevirtual 74, 3) := by decide +kernel
theorem d63_21 : decode (hs_code 63) 21 = .ok (.ireturn, 1) := by decide +kernel
theorem d63_22 : decode (hs_code 63) 22 = .ok (.aload_n 0, 1) := by decide +kernel
theorem d63_23 : decode (hs_code 63) 23 = .ok (.bipush 15, 2) := by decide +kernel
theorem d63_25 : decode (hs_code 63) 25 = .ok (.aload_n 0, 1) := by decide +kernel
theorem d63_26 : decode (hs_code 63) 26 = .ok (.getfield 15, 3) := by decide +kernel
theorem d63_29 : decode (hs_code 63) 29 = .ok (.getfield 155, 3) := by decide +kernel
theorem d63_32 : decode (hs_code 63) 32 = .ok (.invokevirtual 122, 3) := by decide +kernel
theorem d63_35 : decode (hs_code 63) 35 = .ok (.ifCond .ne 5, 3) := by decide +kernel
theorem d63_38 : decode (hs_code 63) 38 = .ok (.iconst 0, 1) := by decide +kernel
theorem d63_39 : decode (hs_code 63) 39 = .ok (.ireturn, 1) := by decide +kernel
theorem d63_40 : decode (hs_code 63) 40 = .ok (.aload_n 0, 1) := by decide +kernel
theorem d63_41 : decode (hs_code 63) 41 = .ok (.getfield 15, 3) := by decide +kernel
theorem d63_44 : decode (hs_code 63) 44 = .ok (.dup, 1) := by decide +kernel
theorem d63_45 : decode (hs_code 63) 45 = .ok (.getfield 155, 3) := by decide +kernel
theorem d63_48 : decode (hs_code 63) 48 = .ok (.iconst 1, 1) := by decide +kernel
theorem d63_49 : decode (hs_code 63) 49 = .ok (.iadd, 1) := by decide +kernel
theorem d63_50 : decode (hs_code 63) 50 = .ok (.putfield 155, 3) := by decide +kernel
theorem d63_53 : decode (hs_code 63) 53 = .ok (.aload_n 0, 1) := by decide +kernel
theorem d63_54 : decode (hs_code 63) 54 = .ok (.getfield 9, 3) := by decide +kernel
theorem d63_57 : decode (hs_code 63) 57 = .ok (.bipush 33, 2) := by decide +kernel
theorem d63_59 : decode (hs_code 63) 59 = .ok (.invokevirtual 89, 3) := by decide +kernel
theorem d63_62 : decode (hs_code 63) 62 = .ok (.ireturn, 1) := by decide +kernel
theorem d64_0 : decode (hs_code 64) 0 = .ok (.aload_n 0, 1) := by decide +kernel
theorem d64_1 : decode (hs_code 64) 1 = .ok (.getfield 15, 3) := by decide +kernel
theorem d64_4 : decode (hs_code 64) 4 = .ok (.getfield 158, 3) := by decide +kernel
theorem d64_7 : decode (hs_code 64) 7 = .ok (.istore_n 1, 1) := by decide +kernel
theorem d64_8 : decode (hs_code 64) 8 = .ok (.iload_n 1, 1) := by decide +kernel
theorem d64_9 : decode (hs_code 64) 9 = .ok (.bipush 10, 2) := by decide +kernel
theorem d64_11 : decode (hs_code 64) 11 = .ok (.if_icmp .lt 13, 3) := by decide +kernel
theorem d64_14 : decode (hs_code 64) 14 = .ok (.aload_n 0, 1) := by decide +kernel
theorem d64_15 : decode (hs_code 64) 15 = .ok (.getfield 9, 3) := by decide +kernel
theorem d64_18 : decode (hs_code 64) 18 = .ok (.bipush 6, 2) := by decide +kernel
theorem d64_20 : decode (hs_code 64) 20 = .ok (.invokevirtual 74, 3) := by decide +kernel
theorem d64_23 : decode (hs_code 64) 23 = .ok (.ireturn, 1) := by decide +kernel
theorem d64_24 : decode (hs_code 64) 24 = .ok (.aload_n 0, 1) := by decide +kernel
theorem d64_25 : decode (hs_code 64) 25 = .ok (.getfield 9, 3) := by decide +kernel
theorem d64_28 : decode (hs_code 64) 28 = .ok (.bipush 15, 2) := by decide +kernel
theorem d64_30 : decode (hs_code 64) 30 = .ok (.aload_n 0, 1) := by decide +kernel
theorem d64_31 : decode (hs_code 64) 31 = .ok (.getfield 15, 3) := by decide +kernel
theorem d64_34 : decode (hs_code 64) 34 = .ok (.getfield 95, 3) := by decide +kernel
theorem d64_37 : decode (hs_code 64) 37 = .ok (.invokevirtual 161, 3) := by decide +kernel
theorem d64_40 : decode (hs_code 64) 40 = .ok (.istore_n 2, 1) := by decide +kernel
theorem d64_41 : decode (hs_code 64) 41 = .ok (.iload_n 2, 1) := by decide +kernel
theorem d64_42 : decode (hs_code 64) 42 = .ok (.ifCond .ge 5, 3) := by decide +kernel
theorem d64_45 : decode (hs_code 64) 45 = .ok (.iconst 0, 1) := by decide +kernel
theorem d64_46 : decode (hs_code 64) 46 = .ok (.ireturn, 1) := by decide +kernel
theorem d64_47 : decode (hs_code 64) 47 = .ok (.aload_n 0, 1) := by decide +kernel
theorem d64_48 : decode (hs_code 64) 48 = .ok (.getfield 9, 3) := by decide +kernel
theorem d64_51 : decode (hs_code 64) 51 = .ok (.bipush 15, 2) := by decide +kernel
theorem d64_53 : decode (hs_code 64) 53 = .ok (.aload_n 0, 1) := by decide +kernel
theorem d64_54 : decode (hs_code 64) 54 = .ok (.getfield 15, 3) := by decide +kernel
theorem d64_57 : decode (hs_code 64) 57 = .ok (.getfield 95, 3) := by decide +kernel
theorem d64_60 : decode (hs_code 64) 60 = .ok (.invokevirtual 161, 3) := by decide +kernel
theorem d64_63 : decode (hs_code 64) 63 = .ok (.istore_n 3, 1) := by decide +kernel
theorem d64_64 : decode (hs_code 64) 64 = .ok (.iload_n 3, 1) := by decide +kernel
theorem d64_65 : decode (hs_code 64) 65 = .ok (.ifCond .ge 5, 3) := by decide +kernel
theorem d64_68 : decode (hs_code 64) 68 = .ok (.iconst 0, 1) := by decide +kernel
theorem d64_69 : decode (hs_code 64) 69 = .ok (.ireturn, 1) := by decide +kernel
theorem d64_70 : decode (hs_code 64) 70 = .ok (.iload_n 3, 1) := by decide +kernel
theorem d64_71 : decode (hs_code 64) 71 = .ok (.iload_n 2, 1) := by decide +kernel
theorem d64_72 : decode (hs_code 64) 72 = .ok (.if_icmp .ne 12, 3) := by decide +kernel
theorem d64_75 : decode (hs_code 64) 75 = .ok (.aload_n 0, 1) := by decide +kernel
theorem d64_76 : decode (hs_code 64) 76 = .ok (.getfield 9, 3) := by decide +kernel
theorem d64_79 : decode (hs_code 64) 79 = .ok (.iconst 5, 1) := by decide +kernel
theorem d64_80 : decode (hs_code 64) 80 = .ok (.invokevirtual 74, 3) := by decide +kernel
theorem d64_83 : decode (hs_code 64) 83 = .ok (.ireturn, 1) := by decide +kernel
theorem d64_84 : decode (hs_code 64) 84 = .ok (.aload_n 0, 1) := by decide +kernel
theorem d64_85 : decode (hs_code 64) 85 = .ok (.getfield 15, 3) := by decide +kernel
theorem d64_88 : decode (hs_code 64) 88 = .ok (.getfield 165, 3) := by decide +kernel
theorem d64_91 : decode (hs_code 64) 91 = .ok (.iload_n 1, 1) := by decide +kernel
theorem d64_92 : decode (hs_code 64) 92 = .ok (.iload_n 2, 1) := by decide +kernel
theorem d64_93 : decode (hs_code 64) 93 = .ok (.iastore, 1) := by decide +kernel
theorem d64_94 : decode (hs_code 64) 94 = .ok (.aload_n 0, 1) := by decide +kernel
theorem d64_95 : decode (hs_code 64) 95 = .ok (.getfield 15, 3) := by decide +kernel
theorem d64_98 : decode (hs_code 64) 98 = .ok (.getfield 168, 3) := by decide +kernel
theorem d64_101 : decode (hs_code 64) 101 = .ok (.iload_n 1, 1) := by decide +kernel
theorem d64_102 : decode (hs_code 64) 102 = .ok (.iload_n 3, 1) := by decide +kernel
theorem d64_103 : decode (hs_code 64) 103 = .ok (.iastore, 1) := by decide +kernel
theorem d64_104 : decode (hs_code 64) 104 = .ok (.aload_n 0, 1) := by decide +kernel
theorem d64_105 : decode (hs_code 64) 105 = .ok (.getfield 15, 3) := by decide +kernel
theorem d64_108 : decode (hs_code 64) 108 = .ok (.dup, 1) := by decide +kernel
theorem d64_109 : decode (hs_code 64) 109 = .ok (.getfield 158, 3) := by decide +kernel
theorem d64_112 : decode (hs_code 64) 112 = .ok (.iconst 1, 1) := by decide +kernel
theorem d64_113 : decode (hs_code 64) 113 = .ok (.iadd, 1) := by decide +kernel
theorem d64_114 : decode (hs_code 64) 114 = .ok (.putfield 158, 3) := by decide +kernel
theorem d64_117 : decode (hs_code 64) 117 = .ok (.aload_n 0, 1) := by decide +kernel
theorem d64_118 : decode (hs_code 64) 118 = .ok (.getfield 9, 3) := by decide +kernel
theorem d64_121 : decode (hs_code 64) 121 = .ok (.bipush 33, 2) := by decide +kernel
theorem d64_123 : decode (hs_code 64) 123 = .ok (.invokevirtual 89, 3) := by decide +kernel
theorem d64_126 : decode (hs_code 64) 126 = .ok (.ireturn, 1) := by decide +kernel
theorem d65_0 : decode (hs_code 65) 0 = .ok (.aload_n 0, 1) := by decide +kernel
theorem d65_1 : decode (hs_code 65) 1 = .ok (.bipush 30, 2) := by decide +kernel
theorem d65_3 : decode (hs_code 65) 3 = .ok (.invokevirtual 112, 3) := by decide +kernel
theorem d65_6 : decode (hs_code 65) 6 = .ok (.ifCond .ne 5, 3) := by decide +kernel
theorem d65_9 : decode (hs_code 65) 9 = .ok (.iconst (-1), 1) := by decide +kernel
theorem d65_10 : decode (hs_code 65) 10 = .ok (.ireturn, 1) := by decide +kernel
theorem d65_11 : decode (hs_code 65) 11 = .ok (.aload_n 2, 1) := by decide +kernel
theorem d65_12 : decode (hs_code 65) 12 = .ok (.aload_n 0, 1) := by decide +kernel
theorem d65_13 : decode (hs_code 65) 13 = .ok (.getfield 102, 3) := by decide +kernel
theorem d65_16 : decode (hs_code 65) 16 = .ok (.iload_n 1, 1) := by decide +kernel
theorem d65_17 : decode (hs_code 65) 17 = .ok (.invokevirtual 115, 3) := by decide +kernel
theorem d65_20 : decode (hs_code 65) 20 = .ok (.istore_n 3, 1) := by decide +kernel
theorem d65_21 : decode (hs_code 65) 21 = .ok (.iload_n 3, 1) := by decide +kernel
theorem d65_22 : decode (hs_code 65) 22 = .ok (.ifCond .ge 9, 3) := by decide +kernel
theorem d65_25 : decode (hs_code 65) 25 = .ok (.aload_n 0, 1) := by decide +kernel
theorem d65_26 : decode (hs_code 65) 26 = .ok (.iconst 3, 1) := by decide +kernel
theorem d65_27 : decode (hs_code 65) 27 = .ok (.invokevirtual 109, 3) := by decide +kernel
theorem d65_30 : decode (hs_code 65) 30 = .ok (.pop, 1) := by decide +kernel
theorem d65_31 : decode (hs_code 65) 31 = .ok (.iload_n 3, 1) := by decide +kernel
theorem d65_32 : decode (hs_code 65) 32 = .ok (.ireturn, 1) := by decide +kernel
theorem d66_0 : decode (hs_code 66) 0 = .ok (.iconst 0, 1) := by decide +kernel
theorem d66_1 : decode (hs_code 66) 1 = .ok (.istore 4, 2) := by decide +kernel
theorem d66_3 : decode (hs_code 66) 3 = .ok (.iload 4, 2) := by decide +kernel
theorem d66_5 : decode (hs_code 66) 5 = .ok (.aload_n 0, 1) := by decide +kernel
theorem d66_6 : decode (hs_code 66) 6 = .ok (.getfield 22, 3) := by decide +kernel
theorem d66_9 : decode (hs_code 66) 9 = .ok (.if_icmp .ge 40, 3) := by decide +kernel
theorem d66_12 : decode (hs_code 66) 12 = .ok (.aload_n 0, 1) := by decide +kernel
theorem d66_13 : decode (hs_code 66) 13 = .ok (.getfield 9, 3) := by decide +kernel
theorem d66_16 : decode (hs_code 66) 16 = .ok (.iload 4, 2) := by decide +kernel
theorem d66_18 : decode (hs_code 66) 18 = .ok (.laload, 1) := by decide +kernel
theorem d66_19 : decode (hs_code 66) 19 = .ok (.lload_n 1, 1) := by decide +kernel
theorem d66_20 : decode (hs_code 66) 20 = .ok (.lcmp, 1) := by decide +kernel
theorem d66_21 : decode (hs_code 66) 21 = .ok (.ifCond .ne 22, 3) := by decide +kernel
theorem d66_24 : decode (hs_code 66) 24 = .ok (.aload_n 0, 1) := by decide +kernel
theorem d66_25 : decode (hs_code 66) 25 = .ok (.getfield 15, 3) := by decide +kernel
theorem d66_28 : decode (hs_code 66) 28 = .ok (.iload 4, 2) := by decide +kernel
theorem d66_30 : decode (hs_code 66) 30 = .ok (.iaload, 1) := by decide +kernel
theorem d66_31 : decode (hs_code 66) 31 = .ok (.iload_n 3, 1) := by decide +kernel
theorem d66_32 : decode (hs_code 66) 32 = .ok (.if_icmp .ne 11, 3) := by decide +kernel
theorem d66_35 : decode (hs_code 66) 35 = .ok (.aload_n 0, 1) := by decide +kernel
theorem d66_36 : decode (hs_code 66) 36 = .ok (.getfield 19, 3) := by decide +kernel
theorem d66_39 : decode (hs_code 66) 39 = .ok (.iload 4, 2) := by decide +kernel
theorem d66_41 : decode (hs_code 66) 41 = .ok (.iaload, 1) := by decide +kernel
theorem d66_42 : decode (hs_code 66) 42 = .ok (.ireturn, 1) := by decide +kernel
theorem d66_43 : decode (hs_code 66) 43 = .ok (.iinc 4 1, 3) := by decide +kernel
theorem d66_46 : decode (hs_code 66) 46 = .ok (.goto (-43), 3) := by decide +kernel
theorem d66_49 : decode (hs_code 66) 49 = .ok (.iconst (-1), 1) := by decide +kernel
theorem d66_50 : decode (hs_code 66) 50 = .ok (.ireturn, 1) := by decide +kernel
theorem d67_0 : decode (hs_code 67) 0 = .ok (.aload_n 0, 1) := by decide +kernel
theorem d67_1 : decode (hs_code 67) 1 = .ok (.iconst 0, 1) := by decide +kernel
theorem d67_2 : decode (hs_code 67) 2 = .ok (.putfield 27, 3) := by decide +kernel
theorem d67_5 : decode (hs_code 67) 5 = .ok (.aload_n 0, 1) := by decide +kernel
theorem d67_6 : decode (hs_code 67) 6 = .ok (.iconst 0, 1) := by decide +kernel
theorem d67_7 : decode (hs_code 67) 7 = .ok (.putfield 31, 3) := by decide +kernel
theorem d67_10 : decode (hs_code 67) 10 = .ok (.aload_n 0, 1) := by decide +kernel
theorem d67_11 : decode (hs_code 67) 11 = .ok (.iconst 0, 1) := by decide +kernel
theorem d67_12 : decode (hs_code 67) 12 = .ok (.putfield 34, 3) := by decide +kernel
theorem d67_15 : decode (hs_code 67) 15 = .ok (.return_, 1) := by decide +kernel
theorem d70_0 : decode (hs_code 70) 0 = .ok (.aload_n 0, 1) := by decide +kernel
theorem d70_1 : decode (hs_code 70) 1 = .ok (.aload_n 1, 1) := by decide +kernel
theorem d70_2 : decode (hs_code 70) 2 = .ok (.putfield 15, 3) := by decide +kernel
theorem d70_5 : decode (hs_code 70) 5 = .ok (.aload_n 0, 1) := by decide +kernel
theorem d70_6 : decode (hs_code 70) 6 = .ok (.aload_n 2, 1) := by decide +kernel
theorem d70_7 : decode (hs_code 70) 7 = .ok (.putfield 19, 3) := by decide +kernel
theorem d70_10 : decode (hs_code 70) 10 = .ok (.aload_n 0, 1) := by decide +kernel
theorem d70_11 : decode (hs_code 70) 11 = .ok (.aload_n 3, 1) := by decide +kernel
theorem d70_12 : decode (hs_code 70) 12 = .ok (.putfield 23, 3) := by decide +kernel
theorem d70_15 : decode (hs_code 70) 15 = .ok (.aload_n 0, 1) := by decide +kernel
theorem d70_16 : decode (hs_code 70) 16 = .ok (.iconst 0, 1) := by decide +kernel
theorem d70_17 : decode (hs_code 70) 17 = .ok (.putfield 27, 3) := by decide +kernel
theorem d70_20 : decode (hs_code 70) 20 = .ok (.aload_n 0, 1) := by decide +kernel
theorem d70_21 : decode (hs_code 70) 21 = .ok (.getfield 19, 3) := by decide +kernel
theorem d70_24 : decode (hs_code 70) 24 = .ok (.invokevirtual 31, 3) := by decide +kernel
theorem d70_27 : decode (hs_code 70) 27 = .ok (.iconst 0, 1) := by decide +kernel
theorem d70_28 : decode (hs_code 70) 28 = .ok (.istore 4, 2) := by decide +kernel
theorem d70_30 : decode (hs_code 70) 30 = .ok (.iload 4, 2) := by decide +kernel
theorem d70_32 : decode (hs_code 70) 32 = .ok (.sipush 900, 3) := by decide +kernel
theorem d70_35 : decode (hs_code 70) 35 = .ok (.if_icmp .gt 83, 3) := by decide +kernel
theorem d70_38 : decode (hs_code 70) 38 = .ok (.aload_n 0, 1) := by decide +kernel
theorem d70_39 : decode (hs_code 70) 39 = .ok (.getfield 15, 3) := by decide +kernel
theorem d70_42 : decode (hs_code 70) 42 = .ok (.invokevirtual 36, 3) := by decide +kernel
theorem d70_45 : decode (hs_code 70) 45 = .ok (.aload_n 0, 1) := by decide +kernel
theorem d70_46 : decode (hs_code 70) 46 = .ok (.getfield 15, 3) := by decide +kernel
theorem d70_49 : decode (hs_code 70) 49 = .ok (.getfield 41, 3) := by decide +kernel
theorem d70_52 : decode (hs_code 70) 52 = .ok (.bipush 37, 2) := by decide +kernel
theorem d70_54 : decode (hs_code 70) 54 = .ok (.if_icmp .ne 49, 3) := by decide +kernel
theorem d70_57 : decode (hs_code 70) 57 = .ok (.aload_n 0, 1) := by decide +kernel
theorem d70_58 : decode (hs_code 70) 58 = .ok (.getfield 19, 3) := by decide +kernel
theorem d70_61 : decode (hs_code 70) 61 = .ok (.aload_n 0, 1) := by decide +kernel
theorem d70_62 : decode (hs_code 70) 62 = .ok (.getfield 27, 3) := by decide +kernel
theorem d70_65 : decode (hs_code 70) 65 = .ok (.ifCond .ne 7, 3) := by decide +kernel
theorem d70_68 : decode (hs_code 70) 68 = .ok (.iconst 1, 1) := by decide +kernel
theorem d70_69 : decode (hs_code 70) 69 = .ok (.goto 4, 3) := by decide +kernel
theorem d70_72 : decode (hs_code 70) 72 = .ok (.iconst 0, 1) := by decide +kernel
theorem d70_73 : decode (hs_code 70) 73 = .ok (.putfield 44, 3) := by decide +kernel
theorem d70_76 : decode (hs_code 70) 76 = .ok (.aload_n 0, 1) := by decide +kernel
theorem d70_77 : decode (hs_code 70) 77 = .ok (.getfield 19, 3) := by decide +kernel
theorem d70_80 : decode (hs_code 70) 80 = .ok (.getfield 44, 3) := by decide +kernel
theorem d70_83 : decode (hs_code 70) 83 = .ok (.ifCond .ne 14, 3) := by decide +kernel
theorem d70_86 : decode (hs_code 70) 86 = .ok (.aload_n 0, 1) := by decide +kernel
theorem d70_87 : decode (hs_code 70) 87 = .ok (.getfield 15, 3) := by decide +kernel
theorem d70_90 : decode (hs_code 70) 90 = .ok (.iconst 2, 1) := by decide +kernel
theorem d70_91 : decode (hs_code 70) 91 = .ok (.invokevirtual 48, 3) := by decide +kernel
theorem d70_94 : decode (hs_code 70) 94 = .ok (.ifCond .eq 7, 3) := by decide +kernel
theorem d70_97 : decode (hs_code 70) 97 = .ok (.iconst 1, 1) := by decide +kernel
theorem d70_98 : decode (hs_code 70) 98 = .ok (.goto 4, 3) := by decide +kernel
theorem d70_101 : decode (hs_code 70) 101 = .ok (.iconst 0, 1) := by decide +kernel
theorem d70_102 : decode (hs_code 70) 102 = .ok (.ireturn, 1) := by decide +kernel
theorem d70_103 : decode (hs_code 70) 103 = .ok (.aload_n 0, 1) := by decide +kernel
theorem d70_104 : decode (hs_code 70) 104 = .ok (.invokevirtual 52, 3) := by decide +kernel
theorem d70_107 : decode (hs_code 70) 107 = .ok (.ifCond .ne 5, 3) := by decide +kernel
theorem d70_110 : decode (hs_code 70) 110 = .ok (.iconst 0, 1) := by decide +kernel
theorem d70_111 : decode (hs_code 70) 111 = .ok (.ireturn, 1) := by decide +kernel
theorem d70_112 : decode (hs_code 70) 112 = .ok (.iinc 4 1, 3) := by decide +kernel
theorem d70_115 : decode (hs_code 70) 115 = .ok (.goto (-85), 3) := by decide +kernel
theorem d70_118 : decode (hs_code 70) 118 = .ok (.iconst 0, 1) := by decide +kernel
theorem d70_119 : decode (hs_code 70) 119 = .ok (.ireturn, 1) := by decide +kernel
theorem d71_0 : decode (hs_code 71) 0 = .ok (.aload_n 0, 1) := by decide +kernel
theorem d71_1 : decode (hs_code 71) 1 = .ok (.getfield 15, 3) := by decide +kernel
theorem d71_4 : decode (hs_code 71) 4 = .ok (.getfield 41, 3) := by decide +kernel
theorem d71_7 : decode (hs_code 71) 7 = .ok (.bipush 28, 2) := by decide +kernel
theorem d71_9 : decode (hs_code 71) 9 = .ok (.if_icmp .ne 8, 3) := by decide +kernel
theorem d71_12 : decode (hs_code 71) 12 = .ok (.aload_n 0, 1) := by decide +kernel
theorem d71_13 : decode (hs_code 71) 13 = .ok (.invokevirtual 56, 3) := by decide +kernel
theorem d71_16 : decode (hs_code 71) 16 = .ok (.ireturn, 1) := by decide +kernel
theorem d71_17 : decode (hs_code 71) 17 = .ok (.aload_n 0, 1) := by decide +kernel
theorem d71_18 : decode (hs_code 71) 18 = .ok (.getfield 15, 3) := by decide +kernel
theorem d71_21 : decode (hs_code 71) 21 = .ok (.getfield 41, 3) := by decide +kernel
theorem d71_24 : decode (hs_code 71) 24 = .ok (.invokestatic 59, 3) := by decide +kernel
theorem d71_27 : decode (hs_code 71) 27 = .ok (.ifCond .ne 12, 3) := by decide +kernel
theorem d71_30 : decode (hs_code 71) 30 = .ok (.aload_n 0, 1) := by decide +kernel
theorem d71_31 : decode (hs_code 71) 31 = .ok (.getfield 15, 3) := by decide +kernel
theorem d71_34 : decode (hs_code 71) 34 = .ok (.iconst 2, 1) := by decide +kernel
theorem d71_35 : decode (hs_code 71) 35 = .ok (.invokevirtual 48, 3) := by decide +kernel
theorem d71_38 : decode (hs_code 71) 38 = .ok (.ireturn, 1) := by decide +kernel
theorem d71_39 : decode (hs_code 71) 39 = .ok (.aload_n 0, 1) := by decide +kernel
theorem d71_40 : decode (hs_code 71) 40 = .ok (.getfield 19, 3) := by decide +kernel
theorem d71_43 : decode (hs_code 71) 43 = .ok (.getfield 62, 3) := by decide +kernel
theorem d71_46 : decode (hs_code 71) 46 = .ok (.bipush 30, 2) := by decide +kernel
theorem d71_48 : decode (hs_code 71) 48 = .ok (.if_icmp .ge 15, 3) := by decide +kernel
theorem d71_51 : decode (hs_code 71) 51 = .ok (.aload_n 0, 1) := by decide +kernel
theorem d71_52 : decode (hs_code 71) 52 = .ok (.getfield 19, 3) := by decide +kernel
theorem d71_55 : decode (hs_code 71) 55 = .ok (.getfield 65, 3) := by decide +kernel
theorem d71_58 : decode (hs_code 71) 58 = .ok (.bipush 60, 2) := by decide +kernel
theorem d71_60 : decode (hs_code 71) 60 = .ok (.if_icmp .lt 13, 3) := by decide +kernel
theorem d71_63 : decode (hs_code 71) 63 = .ok (.aload_n 0, 1) := by decide +kernel
theorem d71_64 : decode (hs_code 71) 64 = .ok (.getfield 15, 3) := by decide +kernel
theorem d71_67 : decode (hs_code 71) 67 = .ok (.bipush 6, 2) := by decide +kernel
theorem d71_69 : decode (hs_code 71) 69 = .ok (.invokevirtual 48, 3) := by decide +kernel
theorem d71_72 : decode (hs_code 71) 72 = .ok (.ireturn, 1) := by decide +kernel
theorem d71_73 : decode (hs_code 71) 73 = .ok (.aload_n 0, 1) := by decide +kernel
theorem d71_74 : decode (hs_code 71) 74 = .ok (.getfield 19, 3) := by decide +kernel
theorem d71_77 : decode (hs_code 71) 77 = .ok (.getfield 65, 3) := by decide +kernel
theorem d71_80 : decode (hs_code 71) 80 = .ok (.istore_n 1, 1) := by decide +kernel
theorem d71_81 : decode (hs_code 71) 81 = .ok (.aload_n 0, 1) := by decide +kernel
theorem d71_82 : decode (hs_code 71) 82 = .ok (.getfield 19, 3) := by decide +kernel
theorem d71_85 : decode (hs_code 71) 85 = .ok (.getfield 68, 3) := by decide +kernel
theorem d71_88 : decode (hs_code 71) 88 = .ok (.iload_n 1, 1) := by decide +kernel
theorem d71_89 : decode (hs_code 71) 89 = .ok (.aload_n 0, 1) := by decide +kernel
theorem d71_90 : decode (hs_code 71) 90 = .ok (.getfield 15, 3) := by decide +kernel
theorem d71_93 : decode (hs_code 71) 93 = .ok (.getfield 41, 3) := by decide +kernel
theorem d71_96 : decode (hs_code 71) 96 = .ok (.iastore, 1) := by decide +kernel
theorem d71_97 : decode (hs_code 71) 97 = .ok (.aload_n 0, 1) := by decide +kernel
theorem d71_98 : decode (hs_code 71) 98 = .ok (.getfield 19, 3) := by decide +kernel
theorem d71_101 : decode (hs_code 71) 101 = .ok (.dup, 1) := by decide +kernel
theorem d71_102 : decode (hs_code 71) 102 = .ok (.getfield 62, 3) := by decide +kernel
theorem d71_105 : decode (hs_code 71) 105 = .ok (.iconst 1, 1) := by decide +kernel
theorem d71_106 : decode (hs_code 71) 106 = .ok (.iadd, 1) := by decide +kernel
theorem d71_107 : decode (hs_code 71) 107 = .ok (.putfield 62, 3) := by decide +kernel
theorem d71_110 : decode (hs_code 71) 110 = .ok (.aload_n 0, 1) := by decide +kernel
theorem d71_111 : decode (hs_code 71) 111 = .ok (.getfield 19, 3) := by decide +kernel
theorem d71_114 : decode (hs_code 71) 114 = .ok (.dup, 1) := by decide +kernel
theorem d71_115 : decode (hs_code 71) 115 = .ok (.getfield 65, 3) := by decide +kernel
theorem d71_118 : decode (hs_code 71) 118 = .ok (.iconst 1, 1) := by decide +kernel
theorem d71_119 : decode (hs_code 71) 119 = .ok (.iadd, 1) := by decide +kernel
theorem d71_120 : decode (hs_code 71) 120 = .ok (.putfield 65, 3) := by decide +kernel
theorem d71_123 : decode (hs_code 71) 123 = .ok (.aload_n 0, 1) := by decide +kernel
theorem d71_124 : decode (hs_code 71) 124 = .ok (.getfield 15, 3) := by decide +kernel
theorem d71_127 : decode (hs_code 71) 127 = .ok (.getfield 41, 3) := by decide +kernel
theorem d71_130 : decode (hs_code 71) 130 = .ok (.tableswitch 196 17 27 #[58, 196, 196, 87, 87, 87, 196, 196, 125, 196, 159], 58) := by decide +kernel
theorem d71_188 : decode (hs_code 71) 188 = .ok (.aload_n 0, 1) := by decide +kernel
theorem d71_189 : decode (hs_code 71) 189 = .ok (.iload_n 1, 1) := by decide +kernel
theorem d71_190 : decode (hs_code 71) 190 = .ok (.iconst 1, 1) := by decide +kernel
theorem d71_191 : decode (hs_code 71) 191 = .ok (.bipush 20, 2) := by decide +kernel
theorem d71_193 : decode (hs_code 71) 193 = .ok (.invokevirtual 71, 3) := by decide +kernel
theorem d71_196 : decode (hs_code 71) 196 = .ok (.ifCond .eq 19, 3) := by decide +kernel
theorem d71_199 : decode (hs_code 71) 199 = .ok (.aload_n 0, 1) := by decide +kernel
theorem d71_200 : decode (hs_code 71) 200 = .ok (.getfield 15, 3) := by decide +kernel
theorem d71_203 : decode (hs_code 71) 203 = .ok (.bipush 33, 2) := by decide +kernel
theorem d71_205 : decode (hs_code 71) 205 = .ok (.invokevirtual 75, 3) := by decide +kernel
theorem d71_208 : decode (hs_code 71) 208 = .ok (.ifCond .eq 7, 3) := by decide +kernel
theorem d71_211 : decode (hs_code 71) 211 = .ok (.iconst 1, 1) := by decide +kernel
theorem d71_212 : decode (hs_code 71) 212 = .ok (.goto 4, 3) := by decide +kernel
theorem d71_215 : decode (hs_code 71) 215 = .ok (.iconst 0, 1) := by decide +kernel
theorem d71_216 : decode (hs_code 71) 216 = .ok (.ireturn, 1) := by decide +kernel
theorem d71_217 : decode (hs_code 71) 217 = .ok (.aload_n 0, 1) := by decide +kernel
theorem d71_218 : decode (hs_code 71) 218 = .ok (.iload_n 1, 1) := by decide +kernel
theorem d71_219 : decode (hs_code 71) 219 = .ok (.iconst 2, 1) := by decide +kernel
theorem d71_220 : decode (hs_code 71) 220 = .ok (.invokevirtual 78, 3) := by decide +kernel
theorem d71_223 : decode (hs_code 71) 223 = .ok (.ifCond .eq 30, 3) := by decide +kernel
theorem d71_226 : decode (hs_code 71) 226 = .ok (.aload_n 0, 1) := by decide +kernel
theorem d71_227 : decode (hs_code 71) 227 = .ok (.iload_n 1, 1) := by decide +kernel
theorem d71_228 : decode (hs_code 71) 228 = .ok (.iconst 0, 1) := by decide +kernel
theorem d71_229 : decode (hs_code 71) 229 = .ok (.bipush 99, 2) := by decide +kernel
theorem d71_231 : decode (hs_code 71) 231 = .ok (.invokevirtual 71, 3) := by decide +kernel
theorem d71_234 : decode (hs_code 71) 234 = .ok (.ifCond .eq 19, 3) := by decide +kernel
theorem d71_237 : decode (hs_code 71) 237 = .ok (.aload_n 0, 1) := by decide +kernel
theorem d71_238 : decode (hs_code 71) 238 = .ok (.getfield 15, 3) := by decide +kernel
theorem d71_241 : decode (hs_code 71) 241 = .ok (.bipush 33, 2) := by decide +kernel
theorem d71_243 : decode (hs_code 71) 243 = .ok (.invokevirtual 75, 3) := by decide +kernel
theorem d71_246 : decode (hs_code 71) 246 = .ok (.ifCond .eq 7, 3) := by decide +kernel
theorem d71_249 : decode (hs_code 71) 249 = .ok (.iconst 1, 1) := by decide +kernel
theorem d71_250 : decode (hs_code 71) 250 = .ok (.goto 4, 3) := by decide +kernel
theorem d71_253 : decode (hs_code 71) 253 = .ok (.iconst 0, 1) := by decide +kernel
theorem d71_254 : decode (hs_code 71) 254 = .ok (.ireturn, 1) := by decide +kernel
theorem d71_255 : decode (hs_code 71) 255 = .ok (.aload_n 0, 1) := by decide +kernel
theorem d71_256 : decode (hs_code 71) 256 = .ok (.iload_n 1, 1) := by decide +kernel
theorem d71_257 : decode (hs_code 71) 257 = .ok (.invokevirtual 82, 3) := by decide +kernel
theorem d71_260 : decode (hs_code 71) 260 = .ok (.ifCond .eq 27, 3) := by decide +kernel
theorem d71_263 : decode (hs_code 71) 263 = .ok (.aload_n 0, 1) := by decide +kernel
theorem d71_264 : decode (hs_code 71) 264 = .ok (.iload_n 1, 1) := by decide +kernel
theorem d71_265 : decode (hs_code 71) 265 = .ok (.invokevirtual 85, 3) := by decide +kernel
theorem d71_268 : decode (hs_code 71) 268 = .ok (.ifCond .eq 19, 3) := by decide +kernel
theorem d71_271 : decode (hs_code 71) 271 = .ok (.aload_n 0, 1) := by decide +kernel
theorem d71_272 : decode (hs_code 71) 272 = .ok (.getfield 15, 3) := by decide +kernel
theorem d71_275 : decode (hs_code 71) 275 = .ok (.bipush 33, 2) := by decide +kernel
theorem d71_277 : decode (hs_code 71) 277 = .ok (.invokevirtual 75, 3) := by decide +kernel
theorem d71_280 : decode (hs_code 71) 280 = .ok (.ifCond .eq 7, 3) := by decide +kernel
theorem d71_283 : decode (hs_code 71) 283 = .ok (.iconst 1, 1) := by decide +kernel
theorem d71_284 : decode (hs_code 71) 284 = .ok (.goto 4, 3) := by decide +kernel
theorem d71_287 : decode (hs_code 71) 287 = .ok (.iconst 0, 1) := by decide +kernel
theorem d71_288 : decode (hs_code 71) 288 = .ok (.ireturn, 1) := by decide +kernel
theorem d71_289 : decode (hs_code 71) 289 = .ok (.aload_n 0, 1) := by decide +kernel
theorem d71_290 : decode (hs_code 71) 290 = .ok (.iload_n 1, 1) := by decide +kernel
theorem d71_291 : decode (hs_code 71) 291 = .ok (.invokevirtual 82, 3) := by decide +kernel
theorem d71_294 : decode (hs_code 71) 294 = .ok (.ifCond .eq 30, 3) := by decide +kernel
theorem d71_297 : decode (hs_code 71) 297 = .ok (.aload_n 0, 1) := by decide +kernel
theorem d71_298 : decode (hs_code 71) 298 = .ok (.iload_n 1, 1) := by decide +kernel
theorem d71_299 : decode (hs_code 71) 299 = .ok (.iconst 1, 1) := by decide +kernel
theorem d71_300 : decode (hs_code 71) 300 = .ok (.bipush 99, 2) := by decide +kernel
theorem d71_302 : decode (hs_code 71) 302 = .ok (.invokevirtual 71, 3) := by decide +kernel
theorem d71_305 : decode (hs_code 71) 305 = .ok (.ifCond .eq 19, 3) := by decide +kernel
theorem d71_308 : decode (hs_code 71) 308 = .ok (.aload_n 0, 1) := by decide +kernel
theorem d71_309 : decode (hs_code 71) 309 = .ok (.getfield 15, 3) := by decide +kernel
theorem d71_312 : decode (hs_code 71) 312 = .ok (.bipush 33, 2) := by decide +kernel
theorem d71_314 : decode (hs_code 71) 314 = .ok (.invokevirtual 75, 3) := by decide +kernel
theorem d71_317 : decode (hs_code 71) 317 = .ok (.ifCond .eq 7, 3) := by decide +kernel
theorem d71_320 : decode (hs_code 71) 320 = .ok (.iconst 1, 1) := by decide +kernel
theorem d71_321 : decode (hs_code 71) 321 = .ok (.goto 4, 3) := by decide +kernel
theorem d71_324 : decode (hs_code 71) 324 = .ok (.iconst 0, 1) := by decide +kernel
theorem d71_325 : decode (hs_code 71) 325 = .ok (.ireturn, 1) := by decide +kernel
theorem d71_326 : decode (hs_code 71) 326 = .ok (.aload_n 0, 1) := by decide +kernel
theorem d71_327 : decode (hs_code 71) 327 = .ok (.getfield 15, 3) := by decide +kernel
theorem d71_330 : decode (hs_code 71) 330 = .ok (.bipush 33, 2) := by decide +kernel
theorem d71_332 : decode (hs_code 71) 332 = .ok (.invokevirtual 75, 3) := by decide +kernel
theorem d71_335 : decode (hs_code 71) 335 = .ok (.ireturn, 1) := by decide +kernel
theorem d72_0 : decode (hs_code 72) 0 = .ok (.aload_n 0, 1) := by decide +kernel
theorem d72_1 : decode (hs_code 72) 1 = .ok (.getfield 27, 3) := by decide +kernel
theorem d72_4 : decode (hs_code 72) 4 = .ok (.ifCond .le 15, 3) := by decide +kernel
theorem d72_7 : decode (hs_code 72) 7 = .ok (.aload_n 0, 1) := by decide +kernel
theorem d72_8 : decode (hs_code 72) 8 = .ok (.getfield 19, 3) := by decide +kernel
theorem d72_11 : decode (hs_code 72) 11 = .ok (.getfield 65, 3) := by decide +kernel
theorem d72_14 : decode (hs_code 72) 14 = .ok (.bipush 60, 2) := by decide +kernel
theorem d72_16 : decode (hs_code 72) 16 = .ok (.if_icmp .lt 12, 3) := by decide +kernel
theorem d72_19 : decode (hs_code 72) 19 = .ok (.aload_n 0, 1) := by decide +kernel
theorem d72_20 : decode (hs_code 72) 20 = .ok (.getfield 15, 3) := by decide +kernel
theorem d72_23 : decode (hs_code 72) 23 = .ok (.iconst 2, 1) := by decide +kernel
theorem d72_24 : decode (hs_code 72) 24 = .ok (.invokevirtual 48, 3) := by decide +kernel
theorem d72_27 : decode (hs_code 72) 27 = .ok (.ireturn, 1) := by decide +kernel
theorem d72_28 : decode (hs_code 72) 28 = .ok (.aload_n 0, 1) := by decide +kernel
theorem d72_29 : decode (hs_code 72) 29 = .ok (.dup, 1) := by decide +kernel
theorem d72_30 : decode (hs_code 72) 30 = .ok (.getfield 27, 3) := by decide +kernel
theorem d72_33 : decode (hs_code 72) 33 = .ok (.iconst 1, 1) := by decide +kernel
theorem d72_34 : decode (hs_code 72) 34 = .ok (.isub, 1) := by decide +kernel
theorem d72_35 : decode (hs_code 72) 35 = .ok (.putfield 27, 3) := by decide +kernel
theorem d72_38 : decode (hs_code 72) 38 = .ok (.aload_n 0, 1) := by decide +kernel
theorem d72_39 : decode (hs_code 72) 39 = .ok (.getfield 19, 3) := by decide +kernel
theorem d72_42 : decode (hs_code 72) 42 = .ok (.getfield 65, 3) := by decide +kernel
theorem d72_45 : decode (hs_code 72) 45 = .ok (.istore_n 1, 1) := by decide +kernel
theorem d72_46 : decode (hs_code 72) 46 = .ok (.aload_n 0, 1) := by decide +kernel
theorem d72_47 : decode (hs_code 72) 47 = .ok (.getfield 19, 3) := by decide +kernel
theorem d72_50 : decode (hs_code 72) 50 = .ok (.getfield 68, 3) := by decide +kernel
theorem d72_53 : decode (hs_code 72) 53 = .ok (.iload_n 1, 1) := by decide +kernel
theorem d72_54 : decode (hs_code 72) 54 = .ok (.bipush 28, 2) := by decide +kernel
theorem d72_56 : decode (hs_code 72) 56 = .ok (.iastore, 1) := by decide +kernel
theorem d72_57 : decode (hs_code 72) 57 = .ok (.aload_n 0, 1) := by decide +kernel
theorem d72_58 : decode (hs_code 72) 58 = .ok (.getfield 19, 3) := by decide +kernel
theorem d72_61 : decode (hs_code 72) 61 = .ok (.getfield 88, 3) := by decide +kernel
theorem d72_64 : decode (hs_code 72) 64 = .ok (.iload_n 1, 1) := by decide +kernel
theorem d72_65 : decode (hs_code 72) 65 = .ok (.aload_n 0, 1) := by decide +kernel
theorem d72_66 : decode (hs_code 72) 66 = .ok (.getfield 9, 3) := by decide +kernel
theorem d72_69 : decode (hs_code 72) 69 = .ok (.aload_n 0, 1) := by decide +kernel
theorem d72_70 : decode (hs_code 72) 70 = .ok (.getfield 27, 3) := by decide +kernel
theorem d72_73 : decode (hs_code 72) 73 = .ok (.iaload, 1) := by decide +kernel
theorem d72_74 : decode (hs_code 72) 74 = .ok (.iastore, 1) := by decide +kernel
theorem d72_75 : decode (hs_code 72) 75 = .ok (.aload_n 0, 1) := by decide +kernel
theorem d72_76 : decode (hs_code 72) 76 = .ok (.getfield 19, 3) := by decide +kernel
theorem d72_79 : decode (hs_code 72) 79 = .ok (.getfield 88, 3) := by decide +kernel
theorem d72_82 : decode (hs_code 72) 82 = .ok (.aload_n 0, 1) := by decide +kernel
theorem d72_83 : decode (hs_code 72) 83 = .ok (.getfield 9, 3) := by decide +kernel
theorem d72_86 : decode (hs_code 72) 86 = .ok (.aload_n 0, 1) := by decide +kernel
theorem d72_87 : decode (hs_code 72) 87 = .ok (.getfield 27, 3) := by decide +kernel
theorem d72_90 : decode (hs_code 72) 90 = .ok (.iaload, 1) := by decide +kernel
theorem d72_91 : decode (hs_code 72) 91 = .ok (.iload_n 1, 1) := by decide +kernel
theorem d72_92 : decode (hs_code 72) 92 = .ok (.iastore, 1) := by decide +kernel
theorem d72_93 : decode (hs_code 72) 93 = .ok (.aload_n 0, 1) := by decide +kernel
theorem d72_94 : decode (hs_code 72) 94 = .ok (.getfield 19, 3) := by decide +kernel
theorem d72_97 : decode (hs_code 72) 97 = .ok (.dup, 1) := by decide +kernel
theorem d72_98 : decode (hs_code 72) 98 = .ok (.getfield 65, 3) := by decide +kernel
theorem d72_101 : decode (hs_code 72) 101 = .ok (.iconst 1, 1) := by decide +kernel
theorem d72_102 : decode (hs_code 72) 102 = .ok (.iadd, 1) := by decide +kernel
theorem d72_103 : decode (hs_code 72) 103 = .ok (.putfield 65, 3) := by decide +kernel
theorem d72_106 : decode (hs_code 72) 106 = .ok (.aload_n 0, 1) := by decide +kernel
theorem d72_107 : decode (hs_code 72) 107 = .ok (.getfield 15, 3) := by decide +kernel
theorem d72_110 : decode (hs_code 72) 110 = .ok (.bipush 33, 2) := by decide +kernel
theorem d72_112 : decode (hs_code 72) 112 = .ok (.invokevirtual 75, 3) := by decide +kernel
theorem d72_115 : decode (hs_code 72) 115 = .ok (.ireturn, 1) := by decide +kernel
theorem d73_0 : decode (hs_code 73) 0 = .ok (.iload_n 0, 1) := by decide +kernel
theorem d73_1 : decode (hs_code 73) 1 = .ok (.bipush 17, 2) := by decide +kernel
theorem d73_3 : decode (hs_code 73) 3 = .ok (.if_icmp .lt 9, 3) := by decide +kernel
theorem d73_6 : decode (hs_code 73) 6 = .ok (.iload_n 0, 1) := by decide +kernel
theorem d73_7 : decode (hs_code 73) 7 = .ok (.bipush 25, 2) := by decide +kernel
theorem d73_9 : decode (hs_code 73) 9 = .ok (.if_icmp .le 15, 3) := by decide +kernel
theorem d73_12 : decode (hs_code 73) 12 = .ok (.iload_n 0, 1) := by decide +kernel
theorem d73_13 : decode (hs_code 73) 13 = .ok (.bipush 27, 2) := by decide +kernel
theorem d73_15 : decode (hs_code 73) 15 = .ok (.if_icmp .eq 9, 3) := by decide +kernel
theorem d73_18 : decode (hs_code 73) 18 = .ok (.iload_n 0, 1) := by decide +kernel
theorem d73_19 : decode (hs_code 73) 19 = .ok (.bipush 29, 2) := by decide +kernel
theorem d73_21 : decode (hs_code 73) 21 = .ok (.if_icmp .ne 7, 3) := by decide +kernel
theorem d73_24 : decode (hs_code 73) 24 = .ok (.iconst 1, 1) := by decide +kernel
theorem d73_25 : decode (hs_code 73) 25 = .ok (.goto 4, 3) := by decide +kernel
theorem d73_28 : decode (hs_code 73) 28 = .ok (.iconst 0, 1) := by decide +kernel
theorem d73_29 : decode (hs_code 73) 29 = .ok (.ireturn, 1) := by decide +kernel
theorem d74_0 : decode (hs_code 74) 0 = .ok (.aload_n 0, 1) := by decide +kernel
theorem d74_1 : decode (hs_code 74) 1 = .ok (.getfield 15, 3) := by decide +kernel
theorem d74_4 : decode (hs_code 74) 4 = .ok (.iload_n 2, 1) := by decide +kernel
theorem d74_5 : decode (hs_code 74) 5 = .ok (.iload_n 3, 1) := by decide +kernel
theorem d74_6 : decode (hs_code 74) 6 = .ok (.invokevirtual 91, 3) := by decide +kernel
theorem d74_9 : decode (hs_code 74) 9 = .ok (.ifCond .ne 5, 3) := by decide +kernel
theorem d74_12 : decode (hs_code 74) 12 = .ok (.iconst 0, 1) := by decide +kernel
theorem d74_13 : decode (hs_code 74) 13 = .ok (.ireturn, 1) := by decide +kernel
theorem d74_14 : decode (hs_code 74) 14 = .ok (.aload_n 0, 1) := by decide +kernel
theorem d74_15 : decode (hs_code 74) 15 = .ok (.getfield 19, 3) := by decide +kernel
theorem d74_18 : decode (hs_code 74) 18 = .ok (.getfield 94, 3) := by decide +kernel
theorem d74_21 : decode (hs_code 74) 21 = .ok (.iload_n 1, 1) := by decide +kernel
theorem d74_22 : decode (hs_code 74) 22 = .ok (.aload_n 0, 1) := by decide +kernel
theorem d74_23 : decode (hs_code 74) 23 = .ok (.getfield 15, 3) := by decide +kernel
theorem d74_26 : decode (hs_code 74) 26 = .ok (.invokevirtual 97, 3) := by decide +kernel
theorem d74_29 : decode (hs_code 74) 29 = .ok (.iastore, 1) := by decide +kernel
theorem d74_30 : decode (hs_code 74) 30 = .ok (.iconst 1, 1) := by decide +kernel
theorem d74_31 : decode (hs_code 74) 31 = .ok (.ireturn, 1) := by decide +kernel
theorem d75_0 : decode (hs_code 75) 0 = .ok (.aload_n 0, 1) := by decide +kernel
theorem d75_1 : decode (hs_code 75) 1 = .ok (.getfield 15, 3) := by decide +kernel
theorem d75_4 : decode (hs_code 75) 4 = .ok (.iload_n 2, 1) := by decide +kernel
theorem d75_5 : decode (hs_code 75) 5 = .ok (.aload_n 0, 1) := by decide +kernel
theorem d75_6 : decode (hs_code 75) 6 = .ok (.getfield 23, 3) := by decide +kernel
theorem d75_9 : decode (hs_code 75) 9 = .ok (.invokevirtual 101, 3) := by decide +kernel
theorem d75_12 : decode (hs_code 75) 12 = .ok (.istore_n 3, 1) := by decide +kernel
theorem d75_13 : decode (hs_code 75) 13 = .ok (.aload_n 0, 1) := by decide +kernel
theorem d75_14 : decode (hs_code 75) 14 = .ok (.getfield 19, 3) := by decide +kernel
theorem d75_17 : decode (hs_code 75) 17 = .ok (.getfield 105, 3) := by decide +kernel
theorem d75_20 : decode (hs_code 75) 20 = .ok (.iload_n 1, 1) := by decide +kernel
theorem d75_21 : decode (hs_code 75) 21 = .ok (.iload_n 3, 1) := by decide +kernel
theorem d75_22 : decode (hs_code 75) 22 = .ok (.iastore, 1) := by decide +kernel
theorem d75_23 : decode (hs_code 75) 23 = .ok (.iload_n 3, 1) := by decide +kernel
theorem d75_24 : decode (hs_code 75) 24 = .ok (.ifCond .lt 7, 3) := by decide +kernel
theorem d75_27 : decode (hs_code 75) 27 = .ok (.iconst 1, 1) := by decide +kernel
theorem d75_28 : decode (hs_code 75) 28 = .ok (.goto 4, 3) := by decide +kernel
theorem d75_31 : decode (hs_code 75) 31 = .ok (.iconst 0, 1) := by decide +kernel
theorem d75_32 : decode (hs_code 75) 32 = .ok (.ireturn, 1) := by decide +kernel
theorem d76_0 : decode (hs_code 76) 0 = .ok (.aload_n 0, 1) := by decide +kernel
theorem d76_1 : decode (hs_code 76) 1 = .ok (.getfield 27, 3) := by decide +kernel
theorem d76_4 : decode (hs_code 76) 4 = .ok (.iconst 3, 1) := by decide +kernel
theorem d76_5 : decode (hs_code 76) 5 = .ok (.if_icmp .lt 13, 3) := by decide +kernel
theorem d76_8 : decode (hs_code 76) 8 = .ok (.aload_n 0, 1) := by decide +kernel
theorem d76_9 : decode (hs_code 76) 9 = .ok (.getfield 15, 3) := by decide +kernel
theorem d76_12 : decode (hs_code 76) 12 = .ok (.bipush 7, 2) := by decide +kernel
theorem d76_14 : decode (hs_code 76) 14 = .ok (.invokevirtual 48, 3) := by decide +kernel
theorem d76_17 : decode (hs_code 76) 17 = .ok (.ireturn, 1) := by decide +kernel
theorem d76_18 : decode (hs_code 76) 18 = .ok (.aload_n 0, 1) := by decide +kernel
theorem d76_19 : decode (hs_code 76) 19 = .ok (.getfield 9, 3) := by decide +kernel
theorem d76_22 : decode (hs_code 76) 22 = .ok (.aload_n 0, 1) := by decide +kernel
theorem d76_23 : decode (hs_code 76) 23 = .ok (.getfield 27, 3) := by decide +kernel
theorem d76_26 : decode (hs_code 76) 26 = .ok (.iload_n 1, 1) := by decide +kernel
theorem d76_27 : decode (hs_code 76) 27 = .ok (.iastore, 1) := by decide +kernel
theorem d76_28 : decode (hs_code 76) 28 = .ok (.aload_n 0, 1) := by decide +kernel
theorem d76_29 : decode (hs_code 76) 29 = .ok (.dup, 1) := by decide +kernel
theorem d76_30 : decode (hs_code 76) 30 = .ok (.getfield 27, 3) := by decide +kernel
theorem d76_33 : decode (hs_code 76) 33 = .ok (.iconst 1, 1) := by decide +kernel
theorem d76_34 : decode (hs_code 76) 34 = .ok (.iadd, 1) := by decide +kernel
theorem d76_35 : decode (hs_code 76) 35 = .ok (.putfield 27, 3) := by decide +kernel
theorem d76_38 : decode (hs_code 76) 38 = .ok (.iconst 1, 1) := by decide +kernel
theorem d76_39 : decode (hs_code 76) 39 = .ok (.ireturn, 1) := by decide +kernel
theorem d77_0 : decode (hs_code 77) 0 = .ok (.aload_n 0, 1) := by decide +kernel
theorem d77_1 : decode (hs_code 77) 1 = .ok (.getfield 15, 3) := by decide +kernel
theorem d77_4 : decode (hs_code 77) 4 = .ok (.invokevirtual 36, 3) := by decide +kernel
theorem d77_64 : decode (hs_code 77) 64 = .ok (.iconst 1, 1) := by decide +kernel
theorem d77_65 : decode (hs_code 77) 65 = .ok (.ireturn, 1) := by decide +kernel
theorem d77_66 : decode (hs_code 77) 66 = .ok (.aload_n 0, 1) := by decide +kernel
theorem d77_67 : decode (hs_code 77) 67 = .ok (.iload_n 1, 1) := by decide +kernel
theorem d77_68 : decode (hs_code 77) 68 = .ok (.bipush 14, 2) := by decide +kernel
theorem d77_70 : decode (hs_code 77) 70 = .ok (.invokevirtual 78, 3) := by decide +kernel
theorem d77_73 : decode (hs_code 77) 73 = .ok (.ireturn, 1) := by decide +kernel
theorem d77_74 : decode (hs_code 77) 74 = .ok (.aload_n 0, 1) := by decide +kernel
theorem d77_75 : decode (hs_code 77) 75 = .ok (.iload_n 1, 1) := by decide +kernel
theorem d77_76 : decode (hs_code 77) 76 = .ok (.iconst 2, 1) := by decide +kernel
theorem d77_77 : decode (hs_code 77) 77 = .ok (.invokevirtual 78, 3) := by decide +kernel
theorem d77_80 : decode (hs_code 77) 80 = .ok (.ifCond .eq 26, 3) := by decide +kernel
theorem d77_83 : decode (hs_code 77) 83 = .ok (.aload_n 0, 1) := by decide +kernel
theorem d77_84 : decode (hs_code 77) 84 = .ok (.iload_n 1, 1) := by decide +kernel
theorem d77_85 : decode (hs_code 77) 85 = .ok (.invokevirtual 111, 3) := by decide +kernel
theorem d77_88 : decode (hs_code 77) 88 = .ok (.ifCond .eq 18, 3) := by decide +kernel
theorem d77_91 : decode (hs_code 77) 91 = .ok (.aload_n 0, 1) := by decide +kernel
theorem d77_92 : decode (hs_code 77) 92 = .ok (.iload_n 1, 1) := by decide +kernel
theorem d77_93 : decode (hs_code 77) 93 = .ok (.iconst 0, 1) := by decide +kernel
theorem d77_94 : decode (hs_code 77) 94 = .ok (.bipush 99, 2) := by decide +kernel
theorem d77_96 : decode (hs_code 77) 96 = .ok (.invokevirtual 71, 3) := by decide +kernel
theorem d77_99 : decode (hs_code 77) 99 = .ok (.ifCond .eq 7, 3) := by decide +kernel
theorem d77_102 : decode (hs_code 77) 102 = .ok (.iconst 1, 1) := by decide +kernel
theorem d77_103 : decode (hs_code 77) 103 = .ok (.goto 4, 3) := by decide +kernel
theorem d77_106 : decode (hs_code 77) 106 = .ok (.iconst 0, 1) := by decide +kernel
theorem d77_107 : decode (hs_code 77) 107 = .ok (.ireturn, 1) := by decide +kernel
theorem d77_108 : decode (hs_code 77) 108 = .ok (.aload_n 0, 1) := by decide +kernel
theorem d77_109 : decode (hs_code 77) 109 = .ok (.getfield 15, 3) := by decide +kernel
theorem d77_112 : decode (hs_code 77) 112 = .ok (.iconst 2, 1) := by decide +kernel
theorem d77_113 : decode (hs_code 77) 113 = .ok (.invokevirtual 48, 3) := by decide +kernel
theorem d77_116 : decode (hs_code 77) 116 = .ok (.ireturn, 1) := by decide +kernel
theorem d78_0 : decode (hs_code 78) 0 = .ok (.aload_n 0, 1) := by decide +kernel
theorem d78_1 : decode (hs_code 78) 1 = .ok (.getfield 15, 3) := by decide +kernel
theorem d78_4 : decode (hs_code 78) 4 = .ok (.invokevirtual 36, 3) := by decide +kernel
theorem d78_7 : decode (hs_code 78) 7 = .ok (.aload_n 0, 1) := by decide +kernel
theorem d78_8 : decode (hs_code 78) 8 = .ok (.getfield 19, 3) := by decide +kernel
theorem d78_11 : decode (hs_code 78) 11 = .ok (.getfield 108, 3) := by decide +kernel
theorem d78_14 : decode (hs_code 78) 14 = .ok (.iload_n 1, 1) := by decide +kernel
theorem d78_15 : decode (hs_code 78) 15 = .ok (.aload_n 0, 1) := by decide +kernel
theorem d78_16 : decode (hs_code 78) 16 = .ok (.getfield 15, 3) := by decide +kernel
theorem d78_19 : decode (hs_code 78) 19 = .ok (.getfield 41, 3) := by decide +kernel
theorem d78_22 : decode (hs_code 78) 22 = .ok (.iastore, 1) := by decide +kernel
theorem d78_23 : decode (hs_code 78) 23 = .ok (.aload_n 0, 1) := by decide +kernel
theorem d78_24 : decode (hs_code 78) 24 = .ok (.getfield 15, 3) := by decide +kernel
theorem d78_27 : decode (hs_code 78) 27 = .ok (.getfield 41, 3) := by decide +kernel
theorem d78_30 : decode (hs_code 78) 30 = .ok (.bipush 34, 2) := by decide +kernel
theorem d78_32 : decode (hs_code 78) 32 = .ok (.if_icmp .eq 38, 3) := by decide +kernel
theorem d78_35 : decode (hs_code 78) 35 = .ok (.aload_n 0, 1) := by decide +kernel
theorem d78_36 : decode (hs_code 78) 36 = .ok (.getfield 15, 3) := by decide +kernel
theorem d78_39 : decode (hs_code 78) 39 = .ok (.getfield 41, 3) := by decide +kernel
theorem d78_42 : decode (hs_code 78) 42 = .ok (.bipush 35, 2) := by decide +kernel
theorem d78_44 : decode (hs_code 78) 44 = .ok (.if_icmp .eq 26, 3) := by decide +kernel
theorem d78_47 : decode (hs_code 78) 47 = .ok (.aload_n 0, 1) := by decide +kernel
theorem d78_48 : decode (hs_code 78) 48 = .ok (.getfield 15, 3) := by decide +kernel
theorem d78_51 : decode (hs_code 78) 51 = .ok (.getfield 41, 3) := by decide +kernel
theorem d78_54 : decode (hs_code 78) 54 = .ok (.bipush 36, 2) := by decide +kernel
theorem d78_56 : decode (hs_code 78) 56 = .ok (.if_icmp .eq 14, 3) := by decide +kernel
theorem d78_59 : decode (hs_code 78) 59 = .ok (.aload_n 0, 1) := by decide +kernel
theorem d78_60 : decode (hs_code 78) 60 = .ok (.getfield 15, 3) := by decide +kernel
theorem d78_63 : decode (hs_code 78) 63 = .ok (.iconst 2, 1) := by decide +kernel
theorem d78_64 : decode (hs_code 78) 64 = .ok (.invokevirtual 48, 3) := by decide +kernel
theorem d78_67 : decode (hs_code 78) 67 = .ok (.ifCond .eq 7, 3) := by decide +kernel
theorem d78_70 : decode (hs_code 78) 70 = .ok (.iconst 1, 1) := by decide +kernel
theorem d78_71 : decode (hs_code 78) 71 = .ok (.goto 4, 3) := by decide +kernel
theorem d78_74 : decode (hs_code 78) 74 = .ok (.iconst 0, 1) := by decide +kernel
theorem d78_75 : decode (hs_code 78) 75 = .ok (.ireturn, 1) := by decide +kernel
theorem d81_0 : decode (hs_code 81) 0 = .ok (.iload_n 1, 1) := by decide +kernel
theorem d81_1 : decode (hs_code 81) 1 = .ok (.tableswitch 81 0 6 #[43, 51, 56, 61, 66, 71, 76], 43) := by decide +kernel
theorem d81_44 : decode (hs_code 81) 44 = .ok (.aload_n 0, 1) := by decide +kernel
theorem d81_45 : decode (hs_code 81) 45 = .ok (.getfield 21, 3) := by decide +kernel
theorem d81_48 : decode (hs_code 81) 48 = .ok (.getfield 51, 3) := by decide +kernel
theorem d81_51 : decode (hs_code 81) 51 = .ok (.ireturn, 1) := by decide +kernel
theorem d81_52 : decode (hs_code 81) 52 = .ok (.aload_n 0, 1) := by decide +kernel
theorem d81_53 : decode (hs_code 81) 53 = .ok (.getfield 52, 3) := by decide +kernel
theorem d81_56 : decode (hs_code 81) 56 = .ok (.ireturn, 1) := by decide +kernel
theorem d81_57 : decode (hs_code 81) 57 = .ok (.aload_n 0, 1) := by decide +kernel
theorem d81_58 : decode (hs_code 81) 58 = .ok (.getfield 55, 3) := by decide +kernel
theorem d81_61 : decode (hs_code 81) 61 = .ok (.ireturn, 1) := by decide +kernel
theorem d81_62 : decode (hs_code 81) 62 = .ok (.aload_n 0, 1) := by decide +kernel
theorem d81_63 : decode (hs_code 81) 63 = .ok (.getfield 58, 3) := by decide +kernel
theorem d81_66 : decode (hs_code 81) 66 = .ok (.ireturn, 1) := by decide +kernel
theorem d81_67 : decode (hs_code 81) 67 = .ok (.aload_n 0, 1) := by decide +kernel
theorem d81_68 : decode (hs_code 81) 68 = .ok (.getfield 61, 3) := by decide +kernel
theorem d81_71 : decode (hs_code 81) 71 = .ok (.ireturn, 1) := by decide +kernel
theorem d81_72 : decode (hs_code 81) 72 = .ok (.aload_n 0, 1) := by decide +kernel
theorem d81_73 : decode (hs_code 81) 73 = .ok (.getfield 64, 3) := by decide +kernel
theorem d81_76 : decode (hs_code 81) 76 = .ok (.ireturn, 1) := by decide +kernel
theorem d81_77 : decode (hs_code 81) 77 = .ok (.aload_n 0, 1) := by decide +kernel
theorem d81_78 : decode (hs_code 81) 78 = .ok (.getfield 67, 3) := by decide +kernel
theorem d81_81 : decode (hs_code 81) 81 = .ok (.ireturn, 1) := by decide +kernel
theorem d81_82 : decode (hs_code 81) 82 = .ok (.aload_n 0, 1) := by decide +kernel
theorem d81_83 : decode (hs_code 81) 83 = .ok (.getfield 70, 3) := by decide +kernel
theorem d81_86 : decode (hs_code 81) 86 = .ok (.ireturn, 1) := by decide +kernel
theorem d82_0 : decode (hs_code 82) 0 = .ok (.iload_n 1, 1) := by decide +kernel
theorem d82_1 : decode (hs_code 82) 1 = .ok (.tableswitch 101 8 14 #[43, 48, 61, 69, 75, 84, 93], 43) := by decide +kernel
theorem d82_44 : decode (hs_code 82) 44 = .ok (.aload_n 0, 1) := by decide +kernel
theorem d82_45 : decode (hs_code 82) 45 = .ok (.getfield 73, 3) := by decide +kernel
theorem d82_48 : decode (hs_code 82) 48 = .ok (.ireturn, 1) := by decide +kernel
theorem d82_49 : decode (hs_code 82) 49 = .ok (.aload_n 0, 1) := by decide +kernel
theorem d82_50 : decode (hs_code 82) 50 = .ok (.getfield 76, 3) := by decide +kernel
theorem d82_53 : decode (hs_code 82) 53 = .ok (.ifCond .eq 7, 3) := by decide +kernel
theorem d82_56 : decode (hs_code 82) 56 = .ok (.iconst 1, 1) := by decide +kernel
theorem d82_57 : decode (hs_code 82) 57 = .ok (.goto 4, 3) := by decide +kernel
theorem d82_60 : decode (hs_code 82) 60 = .ok (.iconst 0, 1) := by decide +kernel
theorem d82_61 : decode (hs_code 82) 61 = .ok (.ireturn, 1) := by decide +kernel
theorem d82_62 : decode (hs_code 82) 62 = .ok (.aload_n 0, 1) := by decide +kernel
theorem d82_63 : decode (hs_code 82) 63 = .ok (.getfield 21, 3) := by decide +kernel
theorem d82_66 : decode (hs_code 82) 66 = .ok (.invokevirtual 96, 3) := by decide +kernel
theorem d82_69 : decode (hs_code 82) 69 = .ok (.ireturn, 1) := by decide +kernel
theorem d82_70 : decode (hs_code 82) 70 = .ok (.aload_n 0, 1) := by decide +kernel
theorem d82_71 : decode (hs_code 82) 71 = .ok (.iconst 0, 1) := by decide +kernel
theorem d82_72 : decode (hs_code 82) 72 = .ok (.invokevirtual 100, 3) := by decide +kernel
theorem d82_75 : decode (hs_code 82) 75 = .ok (.ireturn, 1) := by decide +kernel
theorem d82_76 : decode (hs_code 82) 76 = .ok (.aload_n 0, 1) := by decide +kernel
theorem d82_77 : decode (hs_code 82) 77 = .ok (.getfield 21, 3) := by decide +kernel
theorem d82_80 : decode (hs_code 82) 80 = .ok (.iconst 2, 1) := by decide +kernel
theorem d82_81 : decode (hs_code 82) 81 = .ok (.invokevirtual 104, 3) := by decide +kernel
theorem d82_84 : decode (hs_code 82) 84 = .ok (.ireturn, 1) := by decide +kernel
theorem d82_85 : decode (hs_code 82) 85 = .ok (.aload_n 0, 1) := by decide +kernel
theorem d82_86 : decode (hs_code 82) 86 = .ok (.getfield 21, 3) := by decide +kernel
theorem d82_89 : decode (hs_code 82) 89 = .ok (.iconst 0, 1) := by decide +kernel
theorem d82_90 : decode (hs_code 82) 90 = .ok (.invokevirtual 104, 3) := by decide +kernel
theorem d82_93 : decode (hs_code 82) 93 = .ok (.ireturn, 1) := by decide +kernel
theorem d82_94 : decode (hs_code 82) 94 = .ok (.aload_n 0, 1) := by decide +kernel
theorem d82_95 : decode (hs_code 82) 95 = .ok (.getfield 21, 3) := by decide +kernel
theorem d82_98 : decode (hs_code 82) 98 = .ok (.invokevirtual 107, 3) := by decide +kernel
theorem d82_101 : decode (hs_code 82) 101 = .ok (.ireturn, 1) := by decide +kernel
theorem d82_102 : decode (hs_code 82) 102 = .ok (.aload_n 0, 1) := by decide +kernel
theorem d82_103 : decode (hs_code 82) 103 = .ok (.invokevirtual 110, 3) := by decide +kernel
theorem d82_106 : decode (hs_code 82) 106 = .ok (.ireturn, 1) := by decide +kernel
theorem d83_0 : decode (hs_code 83) 0 = .ok (.iconst 0, 1) := by decide +kernel
theorem d83_1 : decode (hs_code 83) 1 = .ok (.istore_n 1, 1) := by decide +kernel
theorem d83_2 : decode (hs_code 83) 2 = .ok (.iconst 0, 1) := by decide +kernel
theorem d83_3 : decode (hs_code 83) 3 = .ok (.istore_n 2, 1) := by decide +kernel
theorem d83_4 : decode (hs_code 83) 4 = .ok (.iload_n 2, 1) := by decide +kernel
theorem d83_5 : decode (hs_code 83) 5 = .ok (.aload_n 0, 1) := by decide +kernel
theorem d83_6 : decode (hs_code 83) 6 = .ok (.getfield 24, 3) := by decide +kernel
theorem d83_9 : decode (hs_code 83) 9 = .ok (.if_icmp .ge 24, 3) := by decide +kernel
theorem d83_12 : decode (hs_code 83) 12 = .ok (.aload_n 0, 1) := by decide +kernel
theorem d83_13 : decode (hs_code 83) 13 = .ok (.getfield 21, 3) := by decide +kernel
theorem d83_16 : decode (hs_code 83) 16 = .ok (.iload_n 2, 1) := by decide +kernel
theorem d83_17 : decode (hs_code 83) 17 = .ok (.iaload, 1) := by decide +kernel
theorem d83_18 : decode (hs_code 83) 18 = .ok (.ifCond .le 9, 3) := by decide +kernel
theorem d83_21 : decode (hs_code 83) 21 = .ok (.iload_n 1, 1) := by decide +kernel
theorem d83_22 : decode (hs_code 83) 22 = .ok (.iconst 1, 1) := by decide +kernel
theorem d83_23 : decode (hs_code 83) 23 = .ok (.iload_n 2, 1) := by decide +kernel
theorem d83_24 : decode (hs_code 83) 24 = .ok (.ishl, 1) := by decide +kernel
theorem d83_25 : decode (hs_code 83) 25 = .ok (.ior, 1) := by decide +kernel
theorem d83_26 : decode (hs_code 83) 26 = .ok (.istore_n 1, 1) := by decide +kernel
theorem d83_27 : decode (hs_code 83) 27 = .ok (.iinc 2 1, 3) := by decide +kernel
theorem d83_30 : decode (hs_code 83) 30 = .ok (.goto (-26), 3) := by decide +kernel
theorem d83_33 : decode (hs_code 83) 33 = .ok (.iload_n 1, 1) := by decide +kernel
theorem d83_34 : decode (hs_code 83) 34 = .ok (.ireturn, 1) := by decide +kernel
theorem d84_0 : decode (hs_code 84) 0 = .ok (.aload_n 0, 1) := by decide +kernel
theorem d84_1 : decode (hs_code 84) 1 = .ok (.getfield 70, 3) := by decide +kernel
theorem d84_4 : decode (hs_code 84) 4 = .ok (.ifCond .le 17, 3) := by decide +kernel
theorem d84_7 : decode (hs_code 84) 7 = .ok (.aload_n 0, 1) := by decide +kernel
theorem d84_8 : decode (hs_code 84) 8 = .ok (.getfield 73, 3) := by decide +kernel
theorem d84_11 : decode (hs_code 84) 11 = .ok (.iload_n 1, 1) := by decide +kernel
theorem d84_12 : decode (hs_code 84) 12 = .ok (.iadd, 1) := by decide +kernel
theorem d84_13 : decode (hs_code 84) 13 = .ok (.aload_n 0, 1) := by decide +kernel
theorem d84_14 : decode (hs_code 84) 14 = .ok (.getfield 70, 3) := by decide +kernel
theorem d84_17 : decode (hs_code 84) 17 = .ok (.idiv, 1) := by decide +kernel
theorem d84_18 : decode (hs_code 84) 18 = .ok (.goto 4, 3) := by decide +kernel
theorem d84_21 : decode (hs_code 84) 21 = .ok (.iconst 0, 1) := by decide +kernel
theorem d84_22 : decode (hs_code 84) 22 = .ok (.istore_n 2, 1) := by decide +kernel
theorem d84_23 : decode (hs_code 84) 23 = .ok (.iconst 0, 1) := by decide +kernel
theorem d84_24 : decode (hs_code 84) 24 = .ok (.istore_n 3, 1) := by decide +kernel
theorem d84_25 : decode (hs_code 84) 25 = .ok (.iconst 0, 1) := by decide +kernel
theorem d84_26 : decode (hs_code 84) 26 = .ok (.istore 4, 2) := by decide +kernel
theorem d84_28 : decode (hs_code 84) 28 = .ok (.iload 4, 2) := by decide +kernel
theorem d84_30 : decode (hs_code 84) 30 = .ok (.aload_n 0, 1) := by decide +kernel
theorem d84_31 : decode (hs_code 84) 31 = .ok (.getfield 21, 3) := by decide +kernel
theorem d84_34 : decode (hs_code 84) 34 = .ok (.getfield 51, 3) := by decide +kernel
theorem d84_37 : decode (hs_code 84) 37 = .ok (.if_icmp .ge 37, 3) := by decide +kernel
theorem d84_40 : decode (hs_code 84) 40 = .ok (.iload 4, 2) := by decide +kernel
theorem d84_42 : decode (hs_code 84) 42 = .ok (.aload_n 0, 1) := by decide +kernel
theorem d84_43 : decode (hs_code 84) 43 = .ok (.getfield 21, 3) := by decide +kernel
theorem d84_46 : decode (hs_code 84) 46 = .ok (.getfield 51, 3) := by decide +kernel
theorem d84_49 : decode (hs_code 84) 49 = .ok (.iconst 1, 1) := by decide +kernel
theorem d84_50 : decode (hs_code 84) 50 = .ok (.isub, 1) := by decide +kernel
theorem d84_51 : decode (hs_code 84) 51 = .ok (.iload 4, 2) := by decide +kernel
theorem d84_53 : decode (hs_code 84) 53 = .ok (.isub, 1) := by decide +kernel
theorem d84_54 : decode (hs_code 84) 54 = .ok (.invokestatic 141, 3) := by decide +kernel
theorem d84_57 : decode (hs_code 84) 57 = .ok (.iload_n 2, 1) := by decide +kernel
theorem d84_58 : decode (hs_code 84) 58 = .ok (.if_icmp .ge 10, 3) := by decide +kernel
theorem d84_61 : decode (hs_code 84) 61 = .ok (.iload_n 3, 1) := by decide +kernel
theorem d84_62 : decode (hs_code 84) 62 = .ok (.iconst 1, 1) := by decide +kernel
theorem d84_63 : decode (hs_code 84) 63 = .ok (.iload 4, 2) := by decide +kernel
theorem d84_65 : decode (hs_code 84) 65 = .ok (.ishl, 1) := by decide +kernel
theorem d84_66 : decode (hs_code 84) 66 = .ok (.ior, 1) := by decide +kernel
theorem d84_67 : decode (hs_code 84) 67 = .ok (.istore_n 3, 1) := by decide +kernel
theorem d84_68 : decode (hs_code 84) 68 = .ok (.iinc 4 1, 3) := by decide +kernel
theorem d84_71 : decode (hs_code 84) 71 = .ok (.goto (-43), 3) := by decide +kernel
theorem d84_74 : decode (hs_code 84) 74 = .ok (.iload_n 3, 1) := by decide +kernel
theorem d84_75 : decode (hs_code 84) 75 = .ok (.ireturn, 1) := by decide +kernel
theorem f9_12 : hs_fld (hs_own 9) 12 = some (4, 0, 3, 1) := by decide +kernel
theorem f9_21 : hs_fld (hs_own 9) 21 = some (4, 1, 3, 1) := by decide +kernel
theorem f9_35 : hs_fld (hs_own 9) 35 = some (4, 5, 3, 1) := by decide +kernel
theorem f9_47 : hs_fld (hs_own 9) 47 = some (3, 3, 0, 0) := by decide +kernel
theorem f9_51 : hs_fld (hs_own 9) 51 = some (1, 4, 0, 0) := by decide +kernel
theorem f9_52 : hs_fld (hs_own 9) 52 = some (4, 8, 0, 0) := by decide +kernel
theorem f9_55 : hs_fld (hs_own 9) 55 = some (4, 9, 0, 0) := by decide +kernel
theorem f9_58 : hs_fld (hs_own 9) 58 = some (4, 10, 0, 0) := by decide +kernel
theorem f9_61 : hs_fld (hs_own 9) 61 = some (4, 11, 0, 0) := by decide +kernel
theorem f9_64 : hs_fld (hs_own 9) 64 = some (4, 12, 0, 0) := by decide +kernel
theorem f9_67 : hs_fld (hs_own 9) 67 = some (4, 13, 0, 0) := by decide +kernel
theorem f9_70 : hs_fld (hs_own 9) 70 = some (4, 14, 0, 0) := by decide +kernel
theorem f9_73 : hs_fld (hs_own 9) 73 = some (4, 15, 0, 0) := by decide +kernel
theorem f9_76 : hs_fld (hs_own 9) 76 = some (4, 16, 1, 0) := by decide +kernel
theorem f9_80 : hs_fld (hs_own 9) 80 = some (4, 17, 0, 0) := by decide +kernel
theorem f19_9 : hs_fld (hs_own 19) 9 = some (9, 0, 3, 1) := by decide +kernel
theorem f19_15 : hs_fld (hs_own 19) 15 = some (9, 2, 0, 0) := by decide +kernel
theorem f19_19 : hs_fld (hs_own 19) 19 = some (9, 1, 0, 0) := by decide +kernel
theorem f23_15 : hs_fld (hs_own 23) 15 = some (9, 2, 0, 0) := by decide +kernel
theorem f24_15 : hs_fld (hs_own 24) 15 = some (9, 2, 0, 0) := by decide +kernel
theorem f25_9 : hs_fld (hs_own 25) 9 = some (9, 0, 3, 1) := by decide +kernel
theorem f26_19 : hs_fld (hs_own 26) 19 = some (9, 1, 0, 0) := by decide +kernel
theorem f30_15 : hs_fld (hs_own 30) 15 = some (9, 2, 0, 0) := by decide +kernel
theorem f32_57 : hs_fld (hs_own 32) 57 = some (8, 5, 0, 0) := by decide +kernel
theorem f33_9 : hs_fld (hs_own 33) 9 = some (8, 0, 3, 1) := by decide +kernel
theorem f33_57 : hs_fld (hs_own 33) 57 = some (8, 5, 0, 0) := by decide +kernel
theorem f35_9 : hs_fld (hs_own 35) 9 = some (8, 0, 3, 1) := by decide +kernel
theorem f35_33 : hs_fld (hs_own 35) 33 = some (8, 11, 0, 0) := by decide +kernel
theorem f35_36 : hs_fld (hs_own 35) 36 = some (8, 12, 0, 0) := by decide +kernel
theorem f35_57 : hs_fld (hs_own 35) 57 = some (8, 5, 0, 0) := by decide +kernel
theorem f35_66 : hs_fld (hs_own 35) 66 = some (8, 6, 0, 0) := by decide +kernel
theorem f35_69 : hs_fld (hs_own 35) 69 = some (8, 7, 0, 0) := by decide +kernel
theorem f37_9 : hs_fld (hs_own 37) 9 = some (8, 0, 3, 1) := by decide +kernel
theorem f38_15 : hs_fld (hs_own 38) 15 = some (8, 1, 3, 1) := by decide +kernel
theorem f39_19 : hs_fld (hs_own 39) 19 = some (8, 2, 3, 1) := by decide +kernel
theorem f39_23 : hs_fld (hs_own 39) 23 = some (8, 3, 3, 1) := by decide +kernel
theorem f39_26 : hs_fld (hs_own 39) 26 = some (8, 4, 3, 1) := by decide +kernel
theorem f39_66 : hs_fld (hs_own 39) 66 = some (8, 6, 0, 0) := by decide +kernel
theorem f41_9 : hs_fld (hs_own 41) 9 = some (8, 0, 3, 1) := by decide +kernel
theorem f43_9 : hs_fld (hs_own 43) 9 = some (7, 0, 3, 0) := by decide +kernel
theorem f43_15 : hs_fld (hs_own 43) 15 = some (7, 1, 3, 0) := by decide +kernel
theorem f43_24 : hs_fld (hs_own 43) 24 = some (7, 2, 1, 0) := by decide +kernel
theorem f43_28 : hs_fld (hs_own 43) 28 = some (7, 3, 1, 0) := by decide +kernel
theorem f43_36 : hs_fld (hs_own 43) 36 = some (8, 8, 0, 0) := by decide +kernel
theorem f43_40 : hs_fld (hs_own 43) 40 = some (4, 9, 0, 0) := by decide +kernel
theorem f43_43 : hs_fld (hs_own 43) 43 = some (4, 17, 0, 0) := by decide +kernel
theorem f44_19 : hs_fld (hs_own 44) 19 = some (8, 2, 3, 1) := by decide +kernel
theorem f44_23 : hs_fld (hs_own 44) 23 = some (8, 3, 3, 1) := by decide +kernel
theorem f44_26 : hs_fld (hs_own 44) 26 = some (8, 4, 3, 1) := by decide +kernel
theorem f44_29 : hs_fld (hs_own 44) 29 = some (8, 8, 0, 0) := by decide +kernel
theorem f44_66 : hs_fld (hs_own 44) 66 = some (8, 6, 0, 0) := by decide +kernel
theorem f44_69 : hs_fld (hs_own 44) 69 = some (8, 7, 0, 0) := by decide +kernel
theorem f44_99 : hs_fld (hs_own 44) 99 = some (8, 9, 0, 0) := by decide +kernel
theorem f44_102 : hs_fld (hs_own 44) 102 = some (8, 10, 2, 0) := by decide +kernel
theorem f45_9 : hs_fld (hs_own 45) 9 = some (7, 0, 3, 0) := by decide +kernel
theorem f45_36 : hs_fld (hs_own 45) 36 = some (8, 8, 0, 0) := by decide +kernel
theorem f46_9 : hs_fld (hs_own 46) 9 = some (7, 0, 3, 0) := by decide +kernel
theorem f46_15 : hs_fld (hs_own 46) 15 = some (7, 1, 3, 0) := by decide +kernel
theorem f46_24 : hs_fld (hs_own 46) 24 = some (7, 2, 1, 0) := by decide +kernel
theorem f46_86 : hs_fld (hs_own 46) 86 = some (4, 13, 0, 0) := by decide +kernel
theorem f47_29 : hs_fld (hs_own 47) 29 = some (8, 8, 0, 0) := by decide +kernel
theorem f47_33 : hs_fld (hs_own 47) 33 = some (8, 11, 0, 0) := by decide +kernel
theorem f47_36 : hs_fld (hs_own 47) 36 = some (8, 12, 0, 0) := by decide +kernel
theorem f47_99 : hs_fld (hs_own 47) 99 = some (8, 9, 0, 0) := by decide +kernel
theorem f48_102 : hs_fld (hs_own 48) 102 = some (8, 10, 2, 0) := by decide +kernel
theorem f49_29 : hs_fld (hs_own 49) 29 = some (8, 8, 0, 0) := by decide +kernel
theorem f50_102 : hs_fld (hs_own 50) 102 = some (8, 10, 2, 0) := by decide +kernel
theorem f51_9 : hs_fld (hs_own 51) 9 = some (7, 0, 3, 0) := by decide +kernel
theorem f51_15 : hs_fld (hs_own 51) 15 = some (7, 1, 3, 0) := by decide +kernel
theorem f51_28 : hs_fld (hs_own 51) 28 = some (7, 3, 1, 0) := by decide +kernel
theorem f51_92 : hs_fld (hs_own 51) 92 = some (4, 14, 0, 0) := by decide +kernel
theorem f52_9 : hs_fld (hs_own 52) 9 = some (7, 0, 3, 0) := by decide +kernel
theorem f52_15 : hs_fld (hs_own 52) 15 = some (7, 1, 3, 0) := by decide +kernel
theorem f52_36 : hs_fld (hs_own 52) 36 = some (8, 8, 0, 0) := by decide +kernel
theorem f52_113 : hs_fld (hs_own 52) 113 = some (4, 1, 3, 1) := by decide +kernel
theorem f52_117 : hs_fld (hs_own 52) 117 = some (1, 4, 0, 0) := by decide +kernel
theorem f53_9 : hs_fld (hs_own 53) 9 = some (7, 0, 3, 0) := by decide +kernel
theorem f53_15 : hs_fld (hs_own 53) 15 = some (7, 1, 3, 0) := by decide +kernel
theorem f53_95 : hs_fld (hs_own 53) 95 = some (4, 0, 3, 1) := by decide +kernel
theorem f53_99 : hs_fld (hs_own 53) 99 = some (8, 10, 2, 0) := by decide +kernel
theorem f54_9 : hs_fld (hs_own 54) 9 = some (3, 0, 3, 1) := by decide +kernel
theorem f54_22 : hs_fld (hs_own 54) 22 = some (3, 3, 0, 0) := by decide +kernel
theorem f55_9 : hs_fld (hs_own 55) 9 = some (3, 0, 3, 1) := by decide +kernel
theorem f55_15 : hs_fld (hs_own 55) 15 = some (3, 1, 3, 1) := by decide +kernel
theorem f55_19 : hs_fld (hs_own 55) 19 = some (3, 2, 3, 1) := by decide +kernel
theorem f55_22 : hs_fld (hs_own 55) 22 = some (3, 3, 0, 0) := by decide +kernel
theorem f56_9 : hs_fld (hs_own 56) 9 = some (7, 0, 3, 0) := by decide +kernel
theorem f58_9 : hs_fld (hs_own 58) 9 = some (1, 0, 3, 1) := by decide +kernel
theorem f58_15 : hs_fld (hs_own 58) 15 = some (1, 1, 3, 1) := by decide +kernel
theorem f58_18 : hs_fld (hs_own 58) 18 = some (1, 2, 3, 1) := by decide +kernel
theorem f58_21 : hs_fld (hs_own 58) 21 = some (1, 3, 3, 1) := by decide +kernel
theorem f58_24 : hs_fld (hs_own 58) 24 = some (1, 4, 0, 0) := by decide +kernel
theorem f59_9 : hs_fld (hs_own 59) 9 = some (7, 0, 3, 0) := by decide +kernel
theorem f59_15 : hs_fld (hs_own 59) 15 = some (7, 1, 3, 0) := by decide +kernel
theorem f59_136 : hs_fld (hs_own 59) 136 = some (4, 8, 0, 0) := by decide +kernel
theorem f59_139 : hs_fld (hs_own 59) 139 = some (4, 2, 3, 1) := by decide +kernel
theorem f59_143 : hs_fld (hs_own 59) 143 = some (4, 3, 3, 1) := by decide +kernel
theorem f60_9 : hs_fld (hs_own 60) 9 = some (7, 0, 3, 0) := by decide +kernel
theorem f60_15 : hs_fld (hs_own 60) 15 = some (7, 1, 3, 0) := by decide +kernel
theorem f60_40 : hs_fld (hs_own 60) 40 = some (4, 9, 0, 0) := by decide +kernel
theorem f60_146 : hs_fld (hs_own 60) 146 = some (4, 4, 3, 1) := by decide +kernel
theorem f61_9 : hs_fld (hs_own 61) 9 = some (7, 0, 3, 0) := by decide +kernel
theorem f61_15 : hs_fld (hs_own 61) 15 = some (7, 1, 3, 0) := by decide +kernel
theorem f61_36 : hs_fld (hs_own 61) 36 = some (8, 8, 0, 0) := by decide +kernel
theorem f61_113 : hs_fld (hs_own 61) 113 = some (4, 1, 3, 1) := by decide +kernel
theorem f61_117 : hs_fld (hs_own 61) 117 = some (1, 4, 0, 0) := by decide +kernel
theorem f61_149 : hs_fld (hs_own 61) 149 = some (4, 10, 0, 0) := by decide +kernel
theorem f62_35 : hs_fld (hs_own 62) 35 = some (4, 5, 3, 1) := by decide +kernel
theorem f63_9 : hs_fld (hs_own 63) 9 = some (7, 0, 3, 0) := by decide +kernel
theorem f63_15 : hs_fld (hs_own 63) 15 = some (7, 1, 3, 0) := by decide +kernel
theorem f63_155 : hs_fld (hs_own 63) 155 = some (4, 11, 0, 0) := by decide +kernel
theorem f64_9 : hs_fld (hs_own 64) 9 = some (7, 0, 3, 0) := by decide +kernel
theorem f64_15 : hs_fld (hs_own 64) 15 = some (7, 1, 3, 0) := by decide +kernel
theorem f64_95 : hs_fld (hs_own 64) 95 = some (4, 0, 3, 1) := by decide +kernel
theorem f64_158 : hs_fld (hs_own 64) 158 = some (4, 12, 0, 0) := by decide +kernel
theorem f64_165 : hs_fld (hs_own 64) 165 = some (4, 6, 3, 1) := by decide +kernel
theorem f64_168 : hs_fld (hs_own 64) 168 = some (4, 7, 3, 1) := by decide +kernel
theorem f65_102 : hs_fld (hs_own 65) 102 = some (8, 10, 2, 0) := by decide +kernel
theorem f66_9 : hs_fld (hs_own 66) 9 = some (3, 0, 3, 1) := by decide +kernel
theorem f66_15 : hs_fld (hs_own 66) 15 = some (3, 1, 3, 1) := by decide +kernel
theorem f66_19 : hs_fld (hs_own 66) 19 = some (3, 2, 3, 1) := by decide +kernel
theorem f66_22 : hs_fld (hs_own 66) 22 = some (3, 3, 0, 0) := by decide +kernel
theorem f67_27 : hs_fld (hs_own 67) 27 = some (5, 5, 0, 0) := by decide +kernel
theorem f67_31 : hs_fld (hs_own 67) 31 = some (5, 6, 0, 0) := by decide +kernel
theorem f67_34 : hs_fld (hs_own 67) 34 = some (5, 7, 1, 0) := by decide +kernel
theorem f70_15 : hs_fld (hs_own 70) 15 = some (6, 0, 3, 0) := by decide +kernel
theorem f70_19 : hs_fld (hs_own 70) 19 = some (6, 2, 3, 0) := by decide +kernel
theorem f70_23 : hs_fld (hs_own 70) 23 = some (6, 3, 3, 0) := by decide +kernel
theorem f70_27 : hs_fld (hs_own 70) 27 = some (6, 4, 0, 0) := by decide +kernel
theorem f70_41 : hs_fld (hs_own 70) 41 = some (8, 8, 0, 0) := by decide +kernel
theorem f70_44 : hs_fld (hs_own 70) 44 = some (5, 7, 1, 0) := by decide +kernel
theorem f71_15 : hs_fld (hs_own 71) 15 = some (6, 0, 3, 0) := by decide +kernel
theorem f71_19 : hs_fld (hs_own 71) 19 = some (6, 2, 3, 0) := by decide +kernel
theorem f71_41 : hs_fld (hs_own 71) 41 = some (8, 8, 0, 0) := by decide +kernel
theorem f71_62 : hs_fld (hs_own 71) 62 = some (5, 6, 0, 0) := by decide +kernel
theorem f71_65 : hs_fld (hs_own 71) 65 = some (5, 5, 0, 0) := by decide +kernel
theorem f71_68 : hs_fld (hs_own 71) 68 = some (5, 0, 3, 1) := by decide +kernel
theorem f72_9 : hs_fld (hs_own 72) 9 = some (6, 1, 3, 1) := by decide +kernel
theorem f72_15 : hs_fld (hs_own 72) 15 = some (6, 0, 3, 0) := by decide +kernel
theorem f72_19 : hs_fld (hs_own 72) 19 = some (6, 2, 3, 0) := by decide +kernel
theorem f72_27 : hs_fld (hs_own 72) 27 = some (6, 4, 0, 0) := by decide +kernel
theorem f72_65 : hs_fld (hs_own 72) 65 = some (5, 5, 0, 0) := by decide +kernel
theorem f72_68 : hs_fld (hs_own 72) 68 = some (5, 0, 3, 1) := by decide +kernel
theorem f72_88 : hs_fld (hs_own 72) 88 = some (5, 4, 3, 1) := by decide +kernel
theorem f74_15 : hs_fld (hs_own 74) 15 = some (6, 0, 3, 0) := by decide +kernel
theorem f74_19 : hs_fld (hs_own 74) 19 = some (6, 2, 3, 0) := by decide +kernel
theorem f74_94 : hs_fld (hs_own 74) 94 = some (5, 3, 3, 1) := by decide +kernel
theorem f75_15 : hs_fld (hs_own 75) 15 = some (6, 0, 3, 0) := by decide +kernel
theorem f75_19 : hs_fld (hs_own 75) 19 = some (6, 2, 3, 0) := by decide +kernel
theorem f75_23 : hs_fld (hs_own 75) 23 = some (6, 3, 3, 0) := by decide +kernel
theorem f75_105 : hs_fld (hs_own 75) 105 = some (5, 2, 3, 1) := by decide +kernel
theorem f76_9 : hs_fld (hs_own 76) 9 = some (6, 1, 3, 1) := by decide +kernel
theorem f76_15 : hs_fld (hs_own 76) 15 = some (6, 0, 3, 0) := by decide +kernel
theorem f76_27 : hs_fld (hs_own 76) 27 = some (6, 4, 0, 0) := by decide +kernel
theorem f77_15 : hs_fld (hs_own 77) 15 = some (6, 0, 3, 0) := by decide +kernel
theorem f78_15 : hs_fld (hs_own 78) 15 = some (6, 0, 3, 0) := by decide +kernel
theorem f78_19 : hs_fld (hs_own 78) 19 = some (6, 2, 3, 0) := by decide +kernel
theorem f78_41 : hs_fld (hs_own 78) 41 = some (8, 8, 0, 0) := by decide +kernel
theorem f78_108 : hs_fld (hs_own 78) 108 = some (5, 1, 3, 1) := by decide +kernel
theorem f81_21 : hs_fld (hs_own 81) 21 = some (4, 1, 3, 1) := by decide +kernel
theorem f81_51 : hs_fld (hs_own 81) 51 = some (1, 4, 0, 0) := by decide +kernel
theorem f81_52 : hs_fld (hs_own 81) 52 = some (4, 8, 0, 0) := by decide +kernel
theorem f81_55 : hs_fld (hs_own 81) 55 = some (4, 9, 0, 0) := by decide +kernel
theorem f81_58 : hs_fld (hs_own 81) 58 = some (4, 10, 0, 0) := by decide +kernel
theorem f81_61 : hs_fld (hs_own 81) 61 = some (4, 11, 0, 0) := by decide +kernel
theorem f81_64 : hs_fld (hs_own 81) 64 = some (4, 12, 0, 0) := by decide +kernel
theorem f81_67 : hs_fld (hs_own 81) 67 = some (4, 13, 0, 0) := by decide +kernel
theorem f81_70 : hs_fld (hs_own 81) 70 = some (4, 14, 0, 0) := by decide +kernel
theorem f82_21 : hs_fld (hs_own 82) 21 = some (4, 1, 3, 1) := by decide +kernel
theorem f82_73 : hs_fld (hs_own 82) 73 = some (4, 15, 0, 0) := by decide +kernel
theorem f82_76 : hs_fld (hs_own 82) 76 = some (4, 16, 1, 0) := by decide +kernel
theorem f83_21 : hs_fld (hs_own 83) 21 = some (1, 3, 3, 1) := by decide +kernel
theorem f83_24 : hs_fld (hs_own 83) 24 = some (1, 4, 0, 0) := by decide +kernel
theorem f84_21 : hs_fld (hs_own 84) 21 = some (4, 1, 3, 1) := by decide +kernel
theorem f84_51 : hs_fld (hs_own 84) 51 = some (1, 4, 0, 0) := by decide +kernel
theorem f84_70 : hs_fld (hs_own 84) 70 = some (4, 14, 0, 0) := by decide +kernel
theorem f84_73 : hs_fld (hs_own 84) 73 = some (4, 15, 0, 0) := by decide +kernel
theorem rt2 : hs_ret 2 = (some .long) := by decide +kernel
theorem rt9 : hs_ret 9 = none := by decide +kernel
theorem rt19 : hs_ret 19 = none := by decide +kernel
theorem rt23 : hs_ret 23 = (some .boolean) := by decide +kernel
theorem rt24 : hs_ret 24 = (some .boolean) := by decide +kernel
theorem rt25 : hs_ret 25 = none := by decide +kernel
theorem rt26 : hs_ret 26 = (some .long) := by decide +kernel
theorem rt30 : hs_ret 30 = (some .boolean) := by decide +kernel
theorem rt32 : hs_ret 32 = (some .boolean) := by decide +kernel
theorem rt33 : hs_ret 33 = none := by decide +kernel
theorem rt35 : hs_ret 35 = none := by decide +kernel
theorem rt36 : hs_ret 36 = (some .boolean) := by decide +kernel
theorem rt37 : hs_ret 37 = (some .int) := by decide +kernel
theorem rt38 : hs_ret 38 = (some .int) := by decide +kernel
theorem rt39 : hs_ret 39 = none := by decide +kernel
theorem rt40 : hs_ret 40 = (some .boolean) := by decide +kernel
theorem rt41 : hs_ret 41 = (some .int) := by decide +kernel
theorem rt42 : hs_ret 42 = (some .int) := by decide +kernel
theorem rt43 : hs_ret 43 = (some .boolean) := by decide +kernel
theorem rt44 : hs_ret 44 = none := by decide +kernel
theorem rt45 : hs_ret 45 = (some .boolean) := by decide +kernel
theorem rt46 : hs_ret 46 = (some .boolean) := by decide +kernel
theorem rt47 : hs_ret 47 = (some .boolean) := by decide +kernel
theorem rt48 : hs_ret 48 = (some .boolean) := by decide +kernel
theorem rt49 : hs_ret 49 = (some .boolean) := by decide +kernel
theorem rt50 : hs_ret 50 = (some .int) := by decide +kernel
theorem rt51 : hs_ret 51 = (some .boolean) := by decide +kernel
theorem rt52 : hs_ret 52 = (some .boolean) := by decide +kernel
theorem rt53 : hs_ret 53 = (some .boolean) := by decide +kernel
theorem rt54 : hs_ret 54 = (some .boolean) := by decide +kernel
theorem rt55 : hs_ret 55 = none := by decide +kernel
theorem rt56 : hs_ret 56 = (some .boolean) := by decide +kernel
theorem rt57 : hs_ret 57 = (some .int) := by decide +kernel
theorem rt58 : hs_ret 58 = none := by decide +kernel
theorem rt59 : hs_ret 59 = (some .boolean) := by decide +kernel
theorem rt60 : hs_ret 60 = (some .boolean) := by decide +kernel
theorem rt61 : hs_ret 61 = (some .boolean) := by decide +kernel
theorem rt62 : hs_ret 62 = none := by decide +kernel
theorem rt63 : hs_ret 63 = (some .boolean) := by decide +kernel
theorem rt64 : hs_ret 64 = (some .boolean) := by decide +kernel
theorem rt65 : hs_ret 65 = (some .int) := by decide +kernel
theorem rt66 : hs_ret 66 = (some .int) := by decide +kernel
theorem rt67 : hs_ret 67 = none := by decide +kernel
theorem rt70 : hs_ret 70 = (some .boolean) := by decide +kernel
theorem rt71 : hs_ret 71 = (some .boolean) := by decide +kernel
theorem rt72 : hs_ret 72 = (some .boolean) := by decide +kernel
theorem rt73 : hs_ret 73 = (some .boolean) := by decide +kernel
theorem rt74 : hs_ret 74 = (some .boolean) := by decide +kernel
theorem rt75 : hs_ret 75 = (some .boolean) := by decide +kernel
theorem rt76 : hs_ret 76 = (some .boolean) := by decide +kernel
theorem rt77 : hs_ret 77 = (some .boolean) := by decide +kernel
theorem rt78 : hs_ret 78 = (some .boolean) := by decide +kernel
theorem rt81 : hs_ret 81 = (some .int) := by decide +kernel
theorem rt82 : hs_ret 82 = (some .int) := by decide +kernel
theorem rt83 : hs_ret 83 = (some .int) := by decide +kernel
theorem rt84 : hs_ret 84 = (some .int) := by decide +kernel
section BB
variable {scr : List Int32} {d : Nat} {h : hs_H} {S : List hs_S} {I : Nat → Nat → Int32} {L : Nat → Nat → Int64} {R : Nat → Nat → Nat}
theorem e2 {y0 : Int64} {x2 : Int32} : hs_C scr d 2 [.long y0, .int x2] h = hs_R scr d 2 0 [some (.long y0), none, some (.int x2)] [] h := by rw [hs_C, mL2]; rfl
theorem b2_0 {y0 : Int64} {x2 : Int32}  : hs_R scr d 2 0 [some (.long y0), none, some (.int x2)] [] (S, I, L, R) = some (some (.long ((y0 * 32) + (Int32.toInt64 ((x2 - 97) + 1)))), (S, I, L, R)) := Eq.trans (r_ll_n d2_0 rfl) (Eq.trans (r_ldc2 d2_1 cl2_55) (Eq.trans (r_lmul d2_4) (Eq.trans (r_il_n d2_5 rfl) (Eq.trans (r_bp d2_6 kB_97) (Eq.trans (r_isub d2_8) (Eq.trans (r_ic d2_9 kI_1) (Eq.trans (r_iadd d2_10) (Eq.trans (r_i2l d2_11) (Eq.trans (r_ladd d2_12) (r_rl d2_13 rt2))))))))))
theorem e9 {t0 : Nat} : hs_C scr d 9 [.ref t0] h = hs_R scr d 9 0 [some (.ref t0), none] [] h := by rw [hs_C, mL9]; rfl
theorem b9_0 {t0 : Nat} (o_t0 : ok4 S R t0) : hs_R scr d 9 0 [some (.ref t0), none] [] (S, I, L, R) = hs_R scr d 9 69 [some (.ref t0), some (.int 0)] [] (S, (hs_u (hs_u (hs_u (hs_u (hs_u (hs_u (hs_u (hs_u (hs_u (hs_u (hs_u (hs_u I (t0 + 1) 3 0) (t0 + 5) 4 0) t0 8 0) t0 9 0) t0 10 0) t0 11 0) t0 12 0) t0 13 2) t0 14 20) t0 15 0) t0 16 1) t0 17 (-1)), L, R) := Eq.trans (r_al_n d9_0 rfl) (Eq.trans (r_getRe d9_1 f9_12 o_t0.2.1 (o_t0.2.2.1) (Nat.le_trans o_t0.1 (Nat.le_add_right _ _))) (Eq.trans (r_ic d9_4 kI_0) (Eq.trans (r_putI d9_5 f9_47 (o_t0.2.2.2.1).2.1) (Eq.trans (r_al_n d9_8 rfl) (Eq.trans (r_getRe d9_9 f9_21 o_t0.2.1 (o_t0.2.2.2.2.1) (Nat.le_trans o_t0.1 (Nat.le_add_right _ _))) (Eq.trans (r_ic d9_12 kI_0) (Eq.trans (r_putI d9_13 f9_51 (o_t0.2.2.2.2.2.1).2.1) (Eq.trans (r_al_n d9_16 rfl) (Eq.trans (r_ic d9_17 kI_0) (Eq.trans (r_putI d9_18 f9_52 o_t0.2.1) (Eq.trans (r_al_n d9_21 rfl) (Eq.trans (r_ic d9_22 kI_0) (Eq.trans (r_putI d9_23 f9_55 o_t0.2.1) (Eq.trans (r_al_n d9_26 rfl) (Eq.trans (r_ic d9_27 kI_0) (Eq.trans (r_putI d9_28 f9_58 o_t0.2.1) (Eq.trans (r_al_n d9_31 rfl) (Eq.trans (r_ic d9_32 kI_0) (Eq.trans (r_putI d9_33 f9_61 o_t0.2.1) (Eq.trans (r_al_n d9_36 rfl) (Eq.trans (r_ic d9_37 kI_0) (Eq.trans (r_putI d9_38 f9_64 o_t0.2.1) (Eq.trans (r_al_n d9_41 rfl) (Eq.trans (r_ic d9_42 kI_2) (Eq.trans (r_putI d9_43 f9_67 o_t0.2.1) (Eq.trans (r_al_n d9_46 rfl) (Eq.trans (r_bp d9_47 kB_20) (Eq.trans (r_putI d9_49 f9_70 o_t0.2.1) (Eq.trans (r_al_n d9_52 rfl) (Eq.trans (r_ic d9_53 kI_0) (Eq.trans (r_putI d9_54 f9_73 o_t0.2.1) (Eq.trans (r_al_n d9_57 rfl) (Eq.trans (r_ic d9_58 kI_1) (Eq.trans ((r_putZ d9_59 f9_76 o_t0.2.1).trans (if_pos (Or.inr rfl))) (Eq.trans (r_al_n d9_62 rfl) (Eq.trans (r_ic d9_63 kI_m1) (Eq.trans (r_putI d9_64 f9_80 o_t0.2.1) (Eq.trans (r_ic d9_67 kI_0) (Eq.trans (r_is_n (loc' := [some (.ref t0), some (.int 0)]) d9_68 rfl) (rfl))))))))))))))))))))))))))))))))))))))))
theorem b9_69 {t0 : Nat} {x1 : Int32} (o_t0 : ok4 S R t0) : hs_R scr d 9 69 [some (.ref t0), some (.int x1)] [] (S, I, L, R) = (if (48 : Int32) ≤ x1 then some (none, (S, I, L, R)) else (if hs_ib x1 48 = true then hs_R scr d 9 69 [some (.ref t0), some (.int (x1 + 1))] [] (S, (hs_u I (t0 + 13) (Int32.toNatClampNeg x1) 3), L, R) else none)) := Eq.trans (r_il_n d9_69 rfl) (Eq.trans (r_al_n d9_70 rfl) (Eq.trans (r_getRe d9_71 f9_35 o_t0.2.1 (o_t0.2.2.2.2.2.2.2.2.2.2.2.2.1) (Nat.le_trans o_t0.1 (Nat.le_add_right _ _))) (Eq.trans ((r_lenC d9_74 (o_t0.2.2.2.2.2.2.2.2.2.2.2.2.2.1) on_48)) (Eq.trans (r_cge d9_75 rfl) (q_ite (r_rv d9_91 rt9) (Eq.trans (r_al_n d9_78 rfl) (Eq.trans (r_getRe d9_79 f9_35 o_t0.2.1 (o_t0.2.2.2.2.2.2.2.2.2.2.2.2.1) (Nat.le_trans o_t0.1 (Nat.le_add_right _ _))) (Eq.trans (r_il_n d9_82 rfl) (Eq.trans (r_ic d9_83 kI_3) (Eq.trans (r_iast d9_84 (o_t0.2.2.2.2.2.2.2.2.2.2.2.2.2.1)) (q_ite (Eq.trans (r_inc (loc' := [some (.ref t0), some (.int (x1 + 1))]) d9_85 kI_1 rfl rfl) (Eq.trans (r_goto d9_88 rfl) (rfl))) rfl)))))))))))
theorem e19 {t0 : Nat} {x1 : Int32} {x2 : Int32} : hs_C scr d 19 [.ref t0, .int x1, .int x2] h = hs_R scr d 19 0 [some (.ref t0), some (.int x1), some (.int x2), none] [] h := by rw [hs_C, mL19]; rfl
theorem b19_0 {t0 : Nat} {x1 x2 : Int32} (o_t0 : ok9 S R t0) : hs_R scr d 19 0 [some (.ref t0), some (.int x1), some (.int x2), none] [] (S, I, L, R) = hs_R scr d 19 12 [some (.ref t0), some (.int x1), some (.int x2), some (.int 0)] [] (S, (hs_u (hs_u I t0 1 x1) t0 2 x2), L, R) := Eq.trans (r_al_n d19_0 rfl) (Eq.trans (r_il_n d19_1 rfl) (Eq.trans (r_putI d19_2 f19_19 o_t0.2.1) (Eq.trans (r_al_n d19_5 rfl) (Eq.trans (r_il_n d19_6 rfl) (Eq.trans (r_putI d19_7 f19_15 o_t0.2.1) (Eq.trans (r_ic d19_10 kI_0) (Eq.trans (r_is_n (loc' := [some (.ref t0), some (.int x1), some (.int x2), some (.int 0)]) d19_11 rfl) (rfl))))))))
theorem b19_12 {t0 : Nat} {x1 x2 x3 : Int32} (o_t0 : ok9 S R t0) : hs_R scr d 19 12 [some (.ref t0), some (.int x1), some (.int x2), some (.int x3)] [] (S, I, L, R) = (if (60 : Int32) ≤ x3 then some (none, (S, I, L, R)) else (if hs_ib x3 60 = true then hs_R scr d 19 12 [some (.ref t0), some (.int x1), some (.int x2), some (.int (x3 + 1))] [] (S, I, (hs_u L (t0 + 1) (Int32.toNatClampNeg x3) 0), R) else none)) := Eq.trans (r_il_n d19_12 rfl) (Eq.trans (r_bp d19_13 kB_60) (Eq.trans (r_cge d19_15 rfl) (q_ite (r_rv d19_31 rt19) (Eq.trans (r_al_n d19_18 rfl) (Eq.trans (r_getRe d19_19 f19_9 o_t0.2.1 (o_t0.2.2.1) (Nat.le_trans o_t0.1 (Nat.le_add_right _ _))) (Eq.trans (r_il_n d19_22 rfl) (Eq.trans (r_lc d19_23 kL_0) (Eq.trans (r_last d19_24 (o_t0.2.2.2)) (q_ite (Eq.trans (r_inc (loc' := [some (.ref t0), some (.int x1), some (.int x2), some (.int (x3 + 1))]) d19_25 kI_1 rfl rfl) (Eq.trans (r_goto d19_28 rfl) (rfl))) rfl)))))))))
theorem e23 {t0 : Nat} : hs_C scr d 23 [.ref t0] h = hs_R scr d 23 0 [some (.ref t0)] [] h := by rw [hs_C, mL23]; rfl
theorem b23_0 {t0 : Nat} (o_t0 : ok9 S R t0) : hs_R scr d 23 0 [some (.ref t0)] [] (S, I, L, R) = (if (0 : Int32) ≤ (I t0 2) then hs_R scr d 23 12 [some (.ref t0)] [.int 0] (S, I, L, R) else hs_R scr d 23 12 [some (.ref t0)] [.int 1] (S, I, L, R)) := Eq.trans (r_al_n d23_0 rfl) (Eq.trans (r_getI d23_1 f23_15 o_t0.2.1) (Eq.trans (r_zge d23_4 rfl) (q_ite (Eq.trans (r_ic d23_11 kI_0) (rfl)) (Eq.trans (r_ic d23_7 kI_1) (Eq.trans (r_goto d23_8 rfl) (rfl))))))
theorem b23_12 {t0 : Nat} {s0 : Int32}  : hs_R scr d 23 12 [some (.ref t0)] [.int s0] (S, I, L, R) = (if s0 = 0 ∨ s0 = 1 then some (some (.int s0), (S, I, L, R)) else none) := r_rz d23_12 rt23
theorem e24 {t0 : Nat} {x1 : Int32} : hs_C scr d 24 [.ref t0, .int x1] h = hs_R scr d 24 0 [some (.ref t0), some (.int x1)] [] h := by rw [hs_C, mL24]; rfl
theorem b24_0 {t0 : Nat} {x1 : Int32} (o_t0 : ok9 S R t0) : hs_R scr d 24 0 [some (.ref t0), some (.int x1)] [] (S, I, L, R) = (if x1 < 0 then hs_R scr d 24 16 [some (.ref t0), some (.int x1)] [] (S, I, L, R) else (if (I t0 2) ≤ x1 then hs_R scr d 24 16 [some (.ref t0), some (.int x1)] [] (S, I, L, R) else hs_R scr d 24 17 [some (.ref t0), some (.int x1)] [.int 1] (S, I, L, R))) := Eq.trans (r_il_n d24_0 rfl) (Eq.trans (r_zlt d24_1 rfl) (q_ite (rfl) (Eq.trans (r_il_n d24_4 rfl) (Eq.trans (r_al_n d24_5 rfl) (Eq.trans (r_getI d24_6 f24_15 o_t0.2.1) (Eq.trans (r_cge d24_9 rfl) (q_ite (rfl) (Eq.trans (r_ic d24_12 kI_1) (Eq.trans (r_goto d24_13 rfl) (rfl))))))))))
theorem b24_16 {t0 : Nat} {x1 : Int32}  : hs_R scr d 24 16 [some (.ref t0), some (.int x1)] [] (S, I, L, R) = hs_R scr d 24 17 [some (.ref t0), some (.int x1)] [.int 0] (S, I, L, R) := Eq.trans (r_ic d24_16 kI_0) (rfl)
theorem b24_17 {t0 : Nat} {x1 s0 : Int32}  : hs_R scr d 24 17 [some (.ref t0), some (.int x1)] [.int s0] (S, I, L, R) = (if s0 = 0 ∨ s0 = 1 then some (some (.int s0), (S, I, L, R)) else none) := r_rz d24_17 rt24
theorem e25 {t0 : Nat} {x1 : Int32} {y2 : Int64} : hs_C scr d 25 [.ref t0, .int x1, .long y2] h = hs_R scr d 25 0 [some (.ref t0), some (.int x1), some (.long y2), none] [] h := by rw [hs_C, mL25]; rfl
theorem b25_0 {t0 : Nat} {x1 : Int32} {y2 : Int64} (o_t0 : ok9 S R t0) : hs_R scr (d + 1) 25 0 [some (.ref t0), some (.int x1), some (.long y2), none] [] (S, I, L, R) = ((hs_C scr d 24 [.ref t0, .int x1] (S, I, L, R)).bind fun o => hs_R scr (d + 1) 25 5 [some (.ref t0), some (.int x1), some (.long y2), none] (o.1.toList ++ []) o.2) := Eq.trans (r_al_n d25_0 rfl) (Eq.trans (r_il_n d25_1 rfl) (r_cvE (as := [.int x1]) (r := []) d25_2 c25_22 ow24 o_t0.2.1 np24.symm rfl (hs_fitE mL24 (Nat.le_of_ble_eq_true rfl))))
theorem b25_5 {t0 : Nat} {x1 s0 : Int32} {y2 : Int64} (o_t0 : ok9 S R t0) : hs_R scr (d + 1) 25 5 [some (.ref t0), some (.int x1), some (.long y2), none] [.int s0] (S, I, L, R) = (if s0 = 0 then hs_R scr (d + 1) 25 19 [some (.ref t0), some (.int x1), some (.long y2), none] [] (S, I, L, R) else ((hs_C scr d 26 [.ref t0, .long y2] (S, I, L, R)).bind fun o => hs_R scr (d + 1) 25 18 [some (.ref t0), some (.int x1), some (.long y2), none] (o.1.toList ++ [.int x1, .ref (t0 + 1)]) o.2)) := Eq.trans (r_zeq d25_5 rfl) (q_ite (rfl) (Eq.trans (r_al_n d25_8 rfl) (Eq.trans (r_getRe d25_9 f25_9 o_t0.2.1 (o_t0.2.2.1) (Nat.le_trans o_t0.1 (Nat.le_add_right _ _))) (Eq.trans (r_il_n d25_12 rfl) (Eq.trans (r_al_n d25_13 rfl) (Eq.trans (r_ll_n d25_14 rfl) (r_cvE (as := [.long y2]) (r := [.int x1, .ref (t0 + 1)]) d25_15 c25_26 ow26 o_t0.2.1 np26.symm rfl (hs_fitE mL26 (Nat.le_of_ble_eq_true rfl)))))))))
theorem b25_18 {t0 u0 n_u0 : Nat} {x1 s1 : Int32} {y2 v2 : Int64} (a_u0 : S[u0]? = some (.inr (.long, n_u0))) : hs_R scr d 25 18 [some (.ref t0), some (.int x1), some (.long y2), none] [.long v2, .int s1, .ref u0] (S, I, L, R) = (if hs_ib s1 n_u0 = true then hs_R scr d 25 19 [some (.ref t0), some (.int x1), some (.long y2), none] [] (S, I, (hs_u L u0 (Int32.toNatClampNeg s1) v2), R) else none) := Eq.trans (r_last d25_18 a_u0) (q_ite (rfl) rfl)
theorem b25_19 {t0 : Nat} {x1 : Int32} {y2 : Int64}  : hs_R scr d 25 19 [some (.ref t0), some (.int x1), some (.long y2), none] [] (S, I, L, R) = some (none, (S, I, L, R)) := r_rv d25_19 rt25
theorem e26 {t0 : Nat} {y1 : Int64} : hs_C scr d 26 [.ref t0, .long y1] h = hs_R scr d 26 0 [some (.ref t0), some (.long y1), none] [] h := by rw [hs_C, mL26]; rfl
theorem b26_0 {t0 : Nat} {y1 : Int64} (o_t0 : ok9 S R t0) : hs_R scr d 26 0 [some (.ref t0), some (.long y1), none] [] (S, I, L, R) = hs_R scr d 26 (hs_swt (I t0 1) 0 2 [32, 37, 42] 46) [some (.ref t0), some (.long y1), none] [] (S, I, L, R) := Eq.trans (r_al_n d26_0 rfl) (Eq.trans (r_getI d26_1 f26_19 o_t0.2.1) (r_tsw d26_4 rfl rfl rfl))
theorem b26_32 {t0 : Nat} {y1 : Int64}  : hs_R scr d 26 32 [some (.ref t0), some (.long y1), none] [] (S, I, L, R) = some (some (.long (Int32.toInt64 (Int8.toInt32 (Int32.toInt8 (Int64.toInt32 y1))))), (S, I, L, R)) := Eq.trans (r_ll_n d26_32 rfl) (Eq.trans (r_l2i d26_33) (Eq.trans (r_i2b d26_34) (Eq.trans (r_i2l d26_35) (r_rl d26_36 rt26))))
theorem b26_37 {t0 : Nat} {y1 : Int64}  : hs_R scr d 26 37 [some (.ref t0), some (.long y1), none] [] (S, I, L, R) = some (some (.long (Int32.toInt64 (Int16.toInt32 (Int32.toInt16 (Int64.toInt32 y1))))), (S, I, L, R)) := Eq.trans (r_ll_n d26_37 rfl) (Eq.trans (r_l2i d26_38) (Eq.trans (r_i2s d26_39) (Eq.trans (r_i2l d26_40) (r_rl d26_41 rt26))))
theorem b26_42 {t0 : Nat} {y1 : Int64}  : hs_R scr d 26 42 [some (.ref t0), some (.long y1), none] [] (S, I, L, R) = some (some (.long (Int32.toInt64 (Int64.toInt32 y1))), (S, I, L, R)) := Eq.trans (r_ll_n d26_42 rfl) (Eq.trans (r_l2i d26_43) (Eq.trans (r_i2l d26_44) (r_rl d26_45 rt26)))
theorem b26_46 {t0 : Nat} {y1 : Int64}  : hs_R scr d 26 46 [some (.ref t0), some (.long y1), none] [] (S, I, L, R) = some (some (.long y1), (S, I, L, R)) := Eq.trans (r_ll_n d26_46 rfl) (r_rl d26_47 rt26)
theorem e30 {t0 : Nat} {x1 : Int32} {x2 : Int32} : hs_C scr d 30 [.ref t0, .int x1, .int x2] h = hs_R scr d 30 0 [some (.ref t0), some (.int x1), some (.int x2)] [] h := by rw [hs_C, mL30]; rfl
theorem b30_0 {t0 : Nat} {x1 x2 : Int32} (o_t0 : ok9 S R t0) : hs_R scr d 30 0 [some (.ref t0), some (.int x1), some (.int x2)] [] (S, I, L, R) = (if x1 < 0 then hs_R scr d 30 18 [some (.ref t0), some (.int x1), some (.int x2)] [] (S, I, L, R) else (if ((I t0 2) - x2) < x1 then hs_R scr d 30 18 [some (.ref t0), some (.int x1), some (.int x2)] [] (S, I, L, R) else hs_R scr d 30 19 [some (.ref t0), some (.int x1), some (.int x2)] [.int 1] (S, I, L, R))) := Eq.trans (r_il_n d30_0 rfl) (Eq.trans (r_zlt d30_1 rfl) (q_ite (rfl) (Eq.trans (r_il_n d30_4 rfl) (Eq.trans (r_al_n d30_5 rfl) (Eq.trans (r_getI d30_6 f30_15 o_t0.2.1) (Eq.trans (r_il_n d30_9 rfl) (Eq.trans (r_isub d30_10) (Eq.trans (r_cgt d30_11 rfl) (q_ite (rfl) (Eq.trans (r_ic d30_14 kI_1) (Eq.trans (r_goto d30_15 rfl) (rfl))))))))))))
theorem b30_18 {t0 : Nat} {x1 x2 : Int32}  : hs_R scr d 30 18 [some (.ref t0), some (.int x1), some (.int x2)] [] (S, I, L, R) = hs_R scr d 30 19 [some (.ref t0), some (.int x1), some (.int x2)] [.int 0] (S, I, L, R) := Eq.trans (r_ic d30_18 kI_0) (rfl)
theorem b30_19 {t0 : Nat} {x1 x2 s0 : Int32}  : hs_R scr d 30 19 [some (.ref t0), some (.int x1), some (.int x2)] [.int s0] (S, I, L, R) = (if s0 = 0 ∨ s0 = 1 then some (some (.int s0), (S, I, L, R)) else none) := r_rz d30_19 rt30
theorem e32 {t0 : Nat} {x1 : Int32} : hs_C scr d 32 [.ref t0, .int x1] h = hs_R scr d 32 0 [some (.ref t0), some (.int x1)] [] h := by rw [hs_C, mL32]; rfl
theorem b32_0 {t0 : Nat} {x1 : Int32} (o_t0 : ok8 S R t0) : hs_R scr d 32 0 [some (.ref t0), some (.int x1)] [] (S, I, L, R) = (if ((900 : Int32) - x1) < (I t0 5) then hs_R scr d 32 17 [some (.ref t0), some (.int x1)] [.int 0] (S, I, L, R) else hs_R scr d 32 17 [some (.ref t0), some (.int x1)] [.int 1] (S, I, L, R)) := Eq.trans (r_al_n d32_0 rfl) (Eq.trans (r_getI d32_1 f32_57 o_t0.2.1) (Eq.trans (r_sp d32_4 kS_900) (Eq.trans (r_il_n d32_7 rfl) (Eq.trans (r_isub d32_8) (Eq.trans (r_cgt d32_9 rfl) (q_ite (Eq.trans (r_ic d32_16 kI_0) (rfl)) (Eq.trans (r_ic d32_12 kI_1) (Eq.trans (r_goto d32_13 rfl) (rfl)))))))))
theorem b32_17 {t0 : Nat} {x1 s0 : Int32}  : hs_R scr d 32 17 [some (.ref t0), some (.int x1)] [.int s0] (S, I, L, R) = (if s0 = 0 ∨ s0 = 1 then some (some (.int s0), (S, I, L, R)) else none) := r_rz d32_17 rt32
theorem e33 {t0 : Nat} {x1 : Int32} : hs_C scr d 33 [.ref t0, .int x1] h = hs_R scr d 33 0 [some (.ref t0), some (.int x1), none] [] h := by rw [hs_C, mL33]; rfl
theorem b33_0 {t0 : Nat} {x1 : Int32}  : hs_R scr d 33 0 [some (.ref t0), some (.int x1), none] [] (S, I, L, R) = hs_R scr d 33 3 [some (.ref t0), some (.int x1), some (.int 24)] [] (S, I, L, R) := Eq.trans (r_bp d33_0 kB_24) (Eq.trans (r_is_n (loc' := [some (.ref t0), some (.int x1), some (.int 24)]) d33_2 rfl) (rfl))
theorem b33_3 {t0 : Nat} {x1 x2 : Int32} (o_t0 : ok8 S R t0) : hs_R scr d 33 3 [some (.ref t0), some (.int x1), some (.int x2)] [] (S, I, L, R) = (if x2 < 0 then hs_R scr d 33 46 [some (.ref t0), some (.int x1), some (.int x2)] [] (S, I, L, R) else (if (900 : Int32) ≤ (I t0 5) then hs_R scr d 33 46 [some (.ref t0), some (.int x1), some (.int x2)] [] (S, I, L, R) else (if hs_ib (I t0 5) 900 = true then hs_R scr d 33 3 [some (.ref t0), some (.int x1), some (.int (x2 + (-8)))] [] (S, (hs_u (hs_u I (t0 + 1) (Int32.toNatClampNeg (I t0 5)) (vp_nar .byte (Int8.toInt32 (Int32.toInt8 (x1 >>> (x2 &&& 31)))))) t0 5 (((hs_u I (t0 + 1) (Int32.toNatClampNeg (I t0 5)) (vp_nar .byte (Int8.toInt32 (Int32.toInt8 (x1 >>> (x2 &&& 31)))))) t0 5) + 1)), L, R) else none))) := Eq.trans (r_il_n d33_3 rfl) (Eq.trans (r_zlt d33_4 rfl) (q_ite (rfl) (Eq.trans (r_al_n d33_7 rfl) (Eq.trans (r_getI d33_8 f33_57 o_t0.2.1) (Eq.trans (r_sp d33_11 kS_900) (Eq.trans (r_cge d33_14 rfl) (q_ite (rfl) (Eq.trans (r_al_n d33_17 rfl) (Eq.trans (r_getRe d33_18 f33_9 o_t0.2.1 (o_t0.2.2.1) (Nat.le_trans o_t0.1 (Nat.le_add_right _ _))) (Eq.trans (r_al_n d33_21 rfl) (Eq.trans (r_getI d33_22 f33_57 o_t0.2.1) (Eq.trans (r_il_n d33_25 rfl) (Eq.trans (r_il_n d33_26 rfl) (Eq.trans (r_ishr d33_27) (Eq.trans (r_i2b d33_28) (Eq.trans (r_bast d33_29 (o_t0.2.2.2.1)) (q_ite (Eq.trans (r_al_n d33_30 rfl) (Eq.trans (r_dup d33_31 rfl) (Eq.trans (r_getI d33_32 f33_57 o_t0.2.1) (Eq.trans (r_ic d33_35 kI_1) (Eq.trans (r_iadd d33_36) (Eq.trans (r_putI d33_37 f33_57 o_t0.2.1) (Eq.trans (r_inc (loc' := [some (.ref t0), some (.int x1), some (.int (x2 + (-8)))]) d33_40 kI_m8 rfl rfl) (Eq.trans (r_goto d33_43 rfl) (rfl))))))))) rfl)))))))))))))))))
theorem b33_46 {t0 : Nat} {x1 x2 : Int32}  : hs_R scr d 33 46 [some (.ref t0), some (.int x1), some (.int x2)] [] (S, I, L, R) = some (none, (S, I, L, R)) := r_rv d33_46 rt33
theorem e35 {t0 : Nat} {x1 : Int32} : hs_C scr d 35 [.ref t0, .int x1] h = hs_R scr d 35 0 [some (.ref t0), some (.int x1), none, none, none, none] [] h := by rw [hs_C, mL35]; rfl
theorem b35_0 {t0 : Nat} {x1 : Int32} (o_t0 : ok8 S R t0) : hs_R scr d 35 0 [some (.ref t0), some (.int x1), none, none, none, none] [] (S, I, L, R) = hs_R scr d 35 39 [some (.ref t0), some (.int x1), some (.int (if (I t0 5) < x1 then (I t0 5) else x1)), some (.int 0), some (.int 0), none] [] (S, (hs_u (hs_u (hs_u (hs_u (hs_u I t0 5 0) t0 6 0) t0 7 0) t0 11 0) t0 12 (-1)), L, R) := Eq.trans (r_il_n d35_0 rfl) (Eq.trans (r_al_n d35_1 rfl) (Eq.trans (r_getI d35_2 f35_57 o_t0.2.1) (Eq.trans (r_min d35_5 c35_60 rfl) (Eq.trans (r_is_n (loc' := [some (.ref t0), some (.int x1), some (.int (if (I t0 5) < x1 then (I t0 5) else x1)), none, none, none]) d35_8 rfl) (Eq.trans (r_al_n d35_9 rfl) (Eq.trans (r_ic d35_10 kI_0) (Eq.trans (r_putI d35_11 f35_57 o_t0.2.1) (Eq.trans (r_al_n d35_14 rfl) (Eq.trans (r_ic d35_15 kI_0) (Eq.trans (r_putI d35_16 f35_66 o_t0.2.1) (Eq.trans (r_al_n d35_19 rfl) (Eq.trans (r_ic d35_20 kI_0) (Eq.trans (r_putI d35_21 f35_69 o_t0.2.1) (Eq.trans (r_al_n d35_24 rfl) (Eq.trans (r_ic d35_25 kI_0) (Eq.trans (r_putI d35_26 f35_33 o_t0.2.1) (Eq.trans (r_al_n d35_29 rfl) (Eq.trans (r_ic d35_30 kI_m1) (Eq.trans (r_putI d35_31 f35_36 o_t0.2.1) (Eq.trans (r_ic d35_34 kI_0) (Eq.trans (r_is_n (loc' := [some (.ref t0), some (.int x1), some (.int (if (I t0 5) < x1 then (I t0 5) else x1)), some (.int 0), none, none]) d35_35 rfl) (Eq.trans (r_ic d35_36 kI_0) (Eq.trans (r_is (loc' := [some (.ref t0), some (.int x1), some (.int (if (I t0 5) < x1 then (I t0 5) else x1)), some (.int 0), some (.int 0), none]) d35_37 rfl) (rfl))))))))))))))))))))))))
theorem b35_39 {t0 : Nat} {x1 x2 x3 x4 : Int32} {w5 : Option Value} (o_t0 : ok8 S R t0) : hs_R scr (d + 1) 35 39 [some (.ref t0), some (.int x1), some (.int x2), some (.int x3), some (.int x4), w5] [] (S, I, L, R) = (if (900 : Int32) ≤ x4 then hs_R scr (d + 1) 35 136 [some (.ref t0), some (.int x1), some (.int x2), some (.int x3), some (.int x4), w5] [] (S, I, L, R) else (if x2 ≤ x3 then hs_R scr (d + 1) 35 136 [some (.ref t0), some (.int x1), some (.int x2), some (.int x3), some (.int x4), w5] [] (S, I, L, R) else (if hs_ib x3 900 = true then (if (I (t0 + 1) (Int32.toNatClampNeg x3)) = 10 then hs_R scr (d + 1) 35 74 [some (.ref t0), some (.int x1), some (.int x2), some (.int x3), some (.int x4), some (.int (I (t0 + 1) (Int32.toNatClampNeg x3)))] [] (S, I, L, R) else (if (I (t0 + 1) (Int32.toNatClampNeg x3)) = 32 then hs_R scr (d + 1) 35 74 [some (.ref t0), some (.int x1), some (.int x2), some (.int x3), some (.int x4), some (.int (I (t0 + 1) (Int32.toNatClampNeg x3)))] [] (S, I, L, R) else ((hs_C scr d 36 [.int (I (t0 + 1) (Int32.toNatClampNeg x3))] (S, I, L, R)).bind fun o => hs_R scr (d + 1) 35 85 [some (.ref t0), some (.int x1), some (.int x2), some (.int x3), some (.int x4), some (.int (I (t0 + 1) (Int32.toNatClampNeg x3)))] (o.1.toList ++ []) o.2))) else none))) := Eq.trans (r_il d35_39 rfl) (Eq.trans (r_sp d35_41 kS_900) (Eq.trans (r_cge d35_44 rfl) (q_ite (rfl) (Eq.trans (r_il_n d35_47 rfl) (Eq.trans (r_il_n d35_48 rfl) (Eq.trans (r_cge d35_49 rfl) (q_ite (rfl) (Eq.trans (r_al_n d35_52 rfl) (Eq.trans (r_getRe d35_53 f35_9 o_t0.2.1 (o_t0.2.2.1) (Nat.le_trans o_t0.1 (Nat.le_add_right _ _))) (Eq.trans (r_il_n d35_56 rfl) (Eq.trans (r_bald d35_57 (o_t0.2.2.2.1)) (q_ite (Eq.trans (r_is (loc' := [some (.ref t0), some (.int x1), some (.int x2), some (.int x3), some (.int x4), some (.int (I (t0 + 1) (Int32.toNatClampNeg x3)))]) d35_58 rfl) (Eq.trans (r_il d35_60 rfl) (Eq.trans (r_bp d35_62 kB_10) (Eq.trans (r_ceq d35_64 rfl) (q_ite (rfl) (Eq.trans (r_il d35_67 rfl) (Eq.trans (r_bp d35_69 kB_32) (Eq.trans (r_cne d35_71 rfl) (q_ite (rfl) (Eq.trans (r_il d35_80 rfl) (r_cs (as := [.int (I (t0 + 1) (Int32.toNatClampNeg x3))]) (r := []) d35_82 c35_72 np36.symm rfl (hs_fitE mL36 (Nat.le_of_ble_eq_true rfl))))))))))))) rfl))))))))))))
theorem b35_74 {t0 : Nat} {x1 x2 x3 x4 x5 : Int32}  : hs_R scr d 35 74 [some (.ref t0), some (.int x1), some (.int x2), some (.int x3), some (.int x4), some (.int x5)] [] (S, I, L, R) = hs_R scr d 35 130 [some (.ref t0), some (.int x1), some (.int x2), some (.int (x3 + 1)), some (.int x4), some (.int x5)] [] (S, I, L, R) := Eq.trans (r_inc (loc' := [some (.ref t0), some (.int x1), some (.int x2), some (.int (x3 + 1)), some (.int x4), some (.int x5)]) d35_74 kI_1 rfl rfl) (Eq.trans (r_goto d35_77 rfl) (rfl))
theorem b35_85 {t0 : Nat} {x1 x2 x3 x4 x5 s0 : Int32} (o_t0 : ok8 S R t0) : hs_R scr (d + 1) 35 85 [some (.ref t0), some (.int x1), some (.int x2), some (.int x3), some (.int x4), some (.int x5)] [.int s0] (S, I, L, R) = (if s0 = 0 then ((hs_C scr d 40 [.int x5] (S, I, L, R)).bind fun o => hs_R scr (d + 1) 35 103 [some (.ref t0), some (.int x1), some (.int x2), some (.int x3), some (.int x4), some (.int x5)] (o.1.toList ++ []) o.2) else ((hs_C scr d 37 [.ref t0, .int x3, .int x2] (S, I, L, R)).bind fun o => hs_R scr (d + 1) 35 94 [some (.ref t0), some (.int x1), some (.int x2), some (.int x3), some (.int x4), some (.int x5)] (o.1.toList ++ []) o.2)) := Eq.trans (r_zeq d35_85 rfl) (q_ite (Eq.trans (r_il d35_98 rfl) (r_cs (as := [.int x5]) (r := []) d35_100 c35_79 np40.symm rfl (hs_fitE mL40 (Nat.le_of_ble_eq_true rfl)))) (Eq.trans (r_al_n d35_88 rfl) (Eq.trans (r_il_n d35_89 rfl) (Eq.trans (r_il_n d35_90 rfl) (r_cvE (as := [.int x3, .int x2]) (r := []) d35_91 c35_76 ow37 o_t0.2.1 np37.symm rfl (hs_fitE mL37 (Nat.le_of_ble_eq_true rfl)))))))
theorem b35_94 {t0 : Nat} {x1 x2 x3 x4 x5 s0 : Int32}  : hs_R scr d 35 94 [some (.ref t0), some (.int x1), some (.int x2), some (.int x3), some (.int x4), some (.int x5)] [.int s0] (S, I, L, R) = hs_R scr d 35 130 [some (.ref t0), some (.int x1), some (.int x2), some (.int s0), some (.int x4), some (.int x5)] [] (S, I, L, R) := Eq.trans (r_is_n (loc' := [some (.ref t0), some (.int x1), some (.int x2), some (.int s0), some (.int x4), some (.int x5)]) d35_94 rfl) (Eq.trans (r_goto d35_95 rfl) (rfl))
theorem b35_103 {t0 : Nat} {x1 x2 x3 x4 x5 s0 : Int32} (o_t0 : ok8 S R t0) : hs_R scr (d + 1) 35 103 [some (.ref t0), some (.int x1), some (.int x2), some (.int x3), some (.int x4), some (.int x5)] [.int s0] (S, I, L, R) = (if s0 = 0 then ((hs_C scr d 42 [.int x5] (S, I, L, R)).bind fun o => hs_R scr (d + 1) 35 122 [some (.ref t0), some (.int x1), some (.int x2), some (.int x3), some (.int x4), some (.int x5)] (o.1.toList ++ [.ref t0]) o.2) else ((hs_C scr d 41 [.ref t0, .int x3, .int x2] (S, I, L, R)).bind fun o => hs_R scr (d + 1) 35 112 [some (.ref t0), some (.int x1), some (.int x2), some (.int x3), some (.int x4), some (.int x5)] (o.1.toList ++ []) o.2)) := Eq.trans (r_zeq d35_103 rfl) (q_ite (Eq.trans (r_al_n d35_116 rfl) (Eq.trans (r_il d35_117 rfl) (r_cs (as := [.int x5]) (r := [.ref t0]) d35_119 c35_85 np42.symm rfl (hs_fitE mL42 (Nat.le_of_ble_eq_true rfl))))) (Eq.trans (r_al_n d35_106 rfl) (Eq.trans (r_il_n d35_107 rfl) (Eq.trans (r_il_n d35_108 rfl) (r_cvE (as := [.int x3, .int x2]) (r := []) d35_109 c35_82 ow41 o_t0.2.1 np41.symm rfl (hs_fitE mL41 (Nat.le_of_ble_eq_true rfl)))))))
theorem b35_112 {t0 : Nat} {x1 x2 x3 x4 x5 s0 : Int32}  : hs_R scr d 35 112 [some (.ref t0), some (.int x1), some (.int x2), some (.int x3), some (.int x4), some (.int x5)] [.int s0] (S, I, L, R) = hs_R scr d 35 130 [some (.ref t0), some (.int x1), some (.int x2), some (.int s0), some (.int x4), some (.int x5)] [] (S, I, L, R) := Eq.trans (r_is_n (loc' := [some (.ref t0), some (.int x1), some (.int x2), some (.int s0), some (.int x4), some (.int x5)]) d35_112 rfl) (Eq.trans (r_goto d35_113 rfl) (rfl))
theorem b35_122 {t0 u0 : Nat} {x1 x2 x3 x4 x5 s1 : Int32} (o_u0 : ok8 S R u0) : hs_R scr (d + 1) 35 122 [some (.ref t0), some (.int x1), some (.int x2), some (.int x3), some (.int x4), some (.int x5)] [.int s1, .ref u0] (S, I, L, R) = ((hs_C scr d 39 [.ref u0, .int s1, .int x3, .long 0] (S, I, L, R)).bind fun o => hs_R scr (d + 1) 35 127 [some (.ref t0), some (.int x1), some (.int x2), some (.int x3), some (.int x4), some (.int x5)] (o.1.toList ++ []) o.2) := Eq.trans (r_il_n d35_122 rfl) (Eq.trans (r_lc d35_123 kL_0) (r_cvE (as := [.int s1, .int x3, .long 0]) (r := []) d35_124 c35_89 ow39 o_u0.2.1 np39.symm rfl (hs_fitE mL39 (Nat.le_of_ble_eq_true rfl))))
theorem b35_127 {t0 : Nat} {x1 x2 x3 x4 x5 : Int32}  : hs_R scr d 35 127 [some (.ref t0), some (.int x1), some (.int x2), some (.int x3), some (.int x4), some (.int x5)] [] (S, I, L, R) = hs_R scr d 35 130 [some (.ref t0), some (.int x1), some (.int x2), some (.int (x3 + 1)), some (.int x4), some (.int x5)] [] (S, I, L, R) := Eq.trans (r_inc (loc' := [some (.ref t0), some (.int x1), some (.int x2), some (.int (x3 + 1)), some (.int x4), some (.int x5)]) d35_127 kI_1 rfl rfl) (rfl)
theorem b35_130 {t0 : Nat} {x1 x2 x3 x4 x5 : Int32}  : hs_R scr d 35 130 [some (.ref t0), some (.int x1), some (.int x2), some (.int x3), some (.int x4), some (.int x5)] [] (S, I, L, R) = hs_R scr d 35 39 [some (.ref t0), some (.int x1), some (.int x2), some (.int x3), some (.int (x4 + 1)), some (.int x5)] [] (S, I, L, R) := Eq.trans (r_inc (loc' := [some (.ref t0), some (.int x1), some (.int x2), some (.int x3), some (.int (x4 + 1)), some (.int x5)]) d35_130 kI_1 rfl rfl) (Eq.trans (r_goto d35_133 rfl) (rfl))
theorem b35_136 {t0 : Nat} {x1 x2 x3 x4 : Int32} {w5 : Option Value} (o_t0 : ok8 S R t0) : hs_R scr (d + 1) 35 136 [some (.ref t0), some (.int x1), some (.int x2), some (.int x3), some (.int x4), w5] [] (S, I, L, R) = ((hs_C scr d 39 [.ref t0, .int 37, .int x2, .long 0] (S, I, L, R)).bind fun o => hs_R scr (d + 1) 35 144 [some (.ref t0), some (.int x1), some (.int x2), some (.int x3), some (.int x4), w5] (o.1.toList ++ []) o.2) := Eq.trans (r_al_n d35_136 rfl) (Eq.trans (r_bp d35_137 kB_37) (Eq.trans (r_il_n d35_139 rfl) (Eq.trans (r_lc d35_140 kL_0) (r_cvE (as := [.int 37, .int x2, .long 0]) (r := []) d35_141 c35_89 ow39 o_t0.2.1 np39.symm rfl (hs_fitE mL39 (Nat.le_of_ble_eq_true rfl))))))
theorem b35_144 {t0 : Nat} {x1 x2 x3 x4 : Int32} {w5 : Option Value}  : hs_R scr d 35 144 [some (.ref t0), some (.int x1), some (.int x2), some (.int x3), some (.int x4), w5] [] (S, I, L, R) = some (none, (S, I, L, R)) := r_rv d35_144 rt35
theorem e36 {x0 : Int32} : hs_C scr d 36 [.int x0] h = hs_R scr d 36 0 [some (.int x0)] [] h := by rw [hs_C, mL36]; rfl
theorem b36_0 {x0 : Int32}  : hs_R scr d 36 0 [some (.int x0)] [] (S, I, L, R) = (if x0 < 97 then hs_R scr d 36 16 [some (.int x0)] [] (S, I, L, R) else (if (122 : Int32) < x0 then hs_R scr d 36 16 [some (.int x0)] [] (S, I, L, R) else hs_R scr d 36 17 [some (.int x0)] [.int 1] (S, I, L, R))) := Eq.trans (r_il_n d36_0 rfl) (Eq.trans (r_bp d36_1 kB_97) (Eq.trans (r_clt d36_3 rfl) (q_ite (rfl) (Eq.trans (r_il_n d36_6 rfl) (Eq.trans (r_bp d36_7 kB_122) (Eq.trans (r_cgt d36_9 rfl) (q_ite (rfl) (Eq.trans (r_ic d36_12 kI_1) (Eq.trans (r_goto d36_13 rfl) (rfl))))))))))
theorem b36_16 {x0 : Int32}  : hs_R scr d 36 16 [some (.int x0)] [] (S, I, L, R) = hs_R scr d 36 17 [some (.int x0)] [.int 0] (S, I, L, R) := Eq.trans (r_ic d36_16 kI_0) (rfl)
theorem b36_17 {x0 s0 : Int32}  : hs_R scr d 36 17 [some (.int x0)] [.int s0] (S, I, L, R) = (if s0 = 0 ∨ s0 = 1 then some (some (.int s0), (S, I, L, R)) else none) := r_rz d36_17 rt36
theorem e37 {t0 : Nat} {x1 : Int32} {x2 : Int32} : hs_C scr d 37 [.ref t0, .int x1, .int x2] h = hs_R scr d 37 0 [some (.ref t0), some (.int x1), some (.int x2), none, none, none] [] h := by rw [hs_C, mL37]; rfl
theorem b37_0 {t0 : Nat} {x1 x2 : Int32}  : hs_R scr d 37 0 [some (.ref t0), some (.int x1), some (.int x2), none, none, none] [] (S, I, L, R) = hs_R scr d 37 5 [some (.ref t0), some (.int x1), some (.int x2), some (.long 0), none, some (.int x1)] [] (S, I, L, R) := Eq.trans (r_lc d37_0 kL_0) (Eq.trans (r_ls_n (loc' := [some (.ref t0), some (.int x1), some (.int x2), some (.long 0), none, none]) d37_1 rfl) (Eq.trans (r_il_n d37_2 rfl) (Eq.trans (r_is (loc' := [some (.ref t0), some (.int x1), some (.int x2), some (.long 0), none, some (.int x1)]) d37_3 rfl) (rfl))))
theorem b37_5 {t0 : Nat} {x1 x2 x5 : Int32} {y3 : Int64} (o_t0 : ok8 S R t0) : hs_R scr (d + 1) 37 5 [some (.ref t0), some (.int x1), some (.int x2), some (.long y3), none, some (.int x5)] [] (S, I, L, R) = (if x2 ≤ x5 then hs_R scr (d + 1) 37 51 [some (.ref t0), some (.int x1), some (.int x2), some (.long y3), none, some (.int x5)] [] (S, I, L, R) else (if hs_ib x5 900 = true then ((hs_C scr d 36 [.int (I (t0 + 1) (Int32.toNatClampNeg x5))] (S, I, L, R)).bind fun o => hs_R scr (d + 1) 37 21 [some (.ref t0), some (.int x1), some (.int x2), some (.long y3), none, some (.int x5)] (o.1.toList ++ []) o.2) else none)) := Eq.trans (r_il d37_5 rfl) (Eq.trans (r_il_n d37_7 rfl) (Eq.trans (r_cge d37_8 rfl) (q_ite (rfl) (Eq.trans (r_al_n d37_11 rfl) (Eq.trans (r_getRe d37_12 f37_9 o_t0.2.1 (o_t0.2.2.1) (Nat.le_trans o_t0.1 (Nat.le_add_right _ _))) (Eq.trans (r_il d37_15 rfl) (Eq.trans (r_bald d37_17 (o_t0.2.2.2.1)) (q_ite (r_cs (as := [.int (I (t0 + 1) (Int32.toNatClampNeg x5))]) (r := []) d37_18 c37_72 np36.symm rfl (hs_fitE mL36 (Nat.le_of_ble_eq_true rfl))) rfl))))))))
theorem b37_21 {t0 : Nat} {x1 x2 x5 s0 : Int32} {y3 : Int64} (o_t0 : ok8 S R t0) : hs_R scr (d + 1) 37 21 [some (.ref t0), some (.int x1), some (.int x2), some (.long y3), none, some (.int x5)] [.int s0] (S, I, L, R) = (if s0 = 0 then hs_R scr (d + 1) 37 51 [some (.ref t0), some (.int x1), some (.int x2), some (.long y3), none, some (.int x5)] [] (S, I, L, R) else (if (8 : Int32) ≤ (x5 - x1) then hs_R scr (d + 1) 37 45 [some (.ref t0), some (.int x1), some (.int x2), some (.long y3), none, some (.int x5)] [] (S, I, L, R) else (if hs_ib x5 900 = true then ((hs_C scr d 2 [.long y3, .int (I (t0 + 1) (Int32.toNatClampNeg x5))] (S, I, L, R)).bind fun o => hs_R scr (d + 1) 37 44 [some (.ref t0), some (.int x1), some (.int x2), some (.long y3), none, some (.int x5)] (o.1.toList ++ []) o.2) else none))) := Eq.trans (r_zeq d37_21 rfl) (q_ite (rfl) (Eq.trans (r_il d37_24 rfl) (Eq.trans (r_il_n d37_26 rfl) (Eq.trans (r_isub d37_27) (Eq.trans (r_bp d37_28 kB_8) (Eq.trans (r_cge d37_30 rfl) (q_ite (rfl) (Eq.trans (r_ll_n d37_33 rfl) (Eq.trans (r_al_n d37_34 rfl) (Eq.trans (r_getRe d37_35 f37_9 o_t0.2.1 (o_t0.2.2.1) (Nat.le_trans o_t0.1 (Nat.le_add_right _ _))) (Eq.trans (r_il d37_38 rfl) (Eq.trans (r_bald d37_40 (o_t0.2.2.2.1)) (q_ite (r_cs (as := [.long y3, .int (I (t0 + 1) (Int32.toNatClampNeg x5))]) (r := []) d37_41 c37_51 np2.symm rfl (hs_fitE mL2 (Nat.le_of_ble_eq_true rfl))) rfl)))))))))))))
theorem b37_44 {t0 : Nat} {x1 x2 x5 : Int32} {y3 v0 : Int64}  : hs_R scr d 37 44 [some (.ref t0), some (.int x1), some (.int x2), some (.long y3), none, some (.int x5)] [.long v0] (S, I, L, R) = hs_R scr d 37 45 [some (.ref t0), some (.int x1), some (.int x2), some (.long v0), none, some (.int x5)] [] (S, I, L, R) := Eq.trans (r_ls_n (loc' := [some (.ref t0), some (.int x1), some (.int x2), some (.long v0), none, some (.int x5)]) d37_44 rfl) (rfl)
theorem b37_45 {t0 : Nat} {x1 x2 x5 : Int32} {y3 : Int64}  : hs_R scr d 37 45 [some (.ref t0), some (.int x1), some (.int x2), some (.long y3), none, some (.int x5)] [] (S, I, L, R) = hs_R scr d 37 5 [some (.ref t0), some (.int x1), some (.int x2), some (.long y3), none, some (.int (x5 + 1))] [] (S, I, L, R) := Eq.trans (r_inc (loc' := [some (.ref t0), some (.int x1), some (.int x2), some (.long y3), none, some (.int (x5 + 1))]) d37_45 kI_1 rfl rfl) (Eq.trans (r_goto d37_48 rfl) (rfl))
theorem b37_51 {t0 : Nat} {x1 x2 x5 : Int32} {y3 : Int64} (o_t0 : ok8 S R t0) : hs_R scr (d + 1) 37 51 [some (.ref t0), some (.int x1), some (.int x2), some (.long y3), none, some (.int x5)] [] (S, I, L, R) = (if (x5 - x1) ≤ 8 then ((hs_C scr d 38 [.ref t0, .long y3] (S, I, L, R)).bind fun o => hs_R scr (d + 1) 37 71 [some (.ref t0), some (.int x1), some (.int x2), some (.long y3), none, some (.int x5)] (o.1.toList ++ [.ref t0]) o.2) else hs_R scr (d + 1) 37 71 [some (.ref t0), some (.int x1), some (.int x2), some (.long y3), none, some (.int x5)] [.int 31, .ref t0] (S, I, L, R)) := Eq.trans (r_al_n d37_51 rfl) (Eq.trans (r_il d37_52 rfl) (Eq.trans (r_il_n d37_54 rfl) (Eq.trans (r_isub d37_55) (Eq.trans (r_bp d37_56 kB_8) (Eq.trans (r_cle d37_58 rfl) (q_ite (Eq.trans (r_al_n d37_66 rfl) (Eq.trans (r_ll_n d37_67 rfl) (r_cvE (as := [.long y3]) (r := [.ref t0]) d37_68 c37_93 ow38 o_t0.2.1 np38.symm rfl (hs_fitE mL38 (Nat.le_of_ble_eq_true rfl))))) (Eq.trans (r_bp d37_61 kB_31) (Eq.trans (r_goto d37_63 rfl) (rfl)))))))))
theorem b37_71 {t0 u0 : Nat} {x1 x2 x5 s1 : Int32} {y3 : Int64} (o_u0 : ok8 S R u0) : hs_R scr (d + 1) 37 71 [some (.ref t0), some (.int x1), some (.int x2), some (.long y3), none, some (.int x5)] [.int s1, .ref u0] (S, I, L, R) = ((hs_C scr d 39 [.ref u0, .int s1, .int x1, .long y3] (S, I, L, R)).bind fun o => hs_R scr (d + 1) 37 76 [some (.ref t0), some (.int x1), some (.int x2), some (.long y3), none, some (.int x5)] (o.1.toList ++ []) o.2) := Eq.trans (r_il_n d37_71 rfl) (Eq.trans (r_ll_n d37_72 rfl) (r_cvE (as := [.int s1, .int x1, .long y3]) (r := []) d37_73 c37_89 ow39 o_u0.2.1 np39.symm rfl (hs_fitE mL39 (Nat.le_of_ble_eq_true rfl))))
theorem b37_76 {t0 : Nat} {x1 x2 x5 : Int32} {y3 : Int64}  : hs_R scr d 37 76 [some (.ref t0), some (.int x1), some (.int x2), some (.long y3), none, some (.int x5)] [] (S, I, L, R) = some (some (.int x5), (S, I, L, R)) := Eq.trans (r_il d37_76 rfl) (r_ri d37_78 rt37)
theorem e38 {t0 : Nat} {y1 : Int64} : hs_C scr d 38 [.ref t0, .long y1] h = hs_R scr d 38 0 [some (.ref t0), some (.long y1), none, none] [] h := by rw [hs_C, mL38]; rfl
theorem b38_0 {t0 : Nat} {y1 : Int64}  : hs_R scr d 38 0 [some (.ref t0), some (.long y1), none, none] [] (S, I, L, R) = hs_R scr d 38 2 [some (.ref t0), some (.long y1), none, some (.int 0)] [] (S, I, L, R) := Eq.trans (r_ic d38_0 kI_0) (Eq.trans (r_is_n (loc' := [some (.ref t0), some (.long y1), none, some (.int 0)]) d38_1 rfl) (rfl))
theorem b38_2 {t0 : Nat} {y1 : Int64} {x3 : Int32} (o_t0 : ok8 S R t0) : hs_R scr d 38 2 [some (.ref t0), some (.long y1), none, some (.int x3)] [] (S, I, L, R) = (if (30 : Int32) ≤ x3 then some (some (.int 30), (S, I, L, R)) else (if hs_ib x3 30 = true then (if (lg_cmp (L (t0 + 2) (Int32.toNatClampNeg x3)) y1) = 0 then some (some (.int x3), (S, I, L, R)) else hs_R scr d 38 2 [some (.ref t0), some (.long y1), none, some (.int (x3 + 1))] [] (S, I, L, R)) else none)) := Eq.trans (r_il_n d38_2 rfl) (Eq.trans (r_bp d38_3 kB_30) (Eq.trans (r_cge d38_5 rfl) (q_ite (Eq.trans (r_bp d38_27 kB_30) (r_ri d38_29 rt38)) (Eq.trans (r_al_n d38_8 rfl) (Eq.trans (r_getRe d38_9 f38_15 o_t0.2.1 (o_t0.2.2.2.2.1) (Nat.le_trans o_t0.1 (Nat.le_add_right _ _))) (Eq.trans (r_il_n d38_12 rfl) (Eq.trans (r_lald d38_13 (o_t0.2.2.2.2.2.1)) (q_ite (Eq.trans (r_ll_n d38_14 rfl) (Eq.trans (r_lcmp d38_15) (Eq.trans (r_zne d38_16 rfl) (q_ite (Eq.trans (r_il_n d38_19 rfl) (r_ri d38_20 rt38)) (Eq.trans (r_inc (loc' := [some (.ref t0), some (.long y1), none, some (.int (x3 + 1))]) d38_21 kI_1 rfl rfl) (Eq.trans (r_goto d38_24 rfl) (rfl))))))) rfl))))))))
theorem e39 {t0 : Nat} {x1 : Int32} {x2 : Int32} {y3 : Int64} : hs_C scr d 39 [.ref t0, .int x1, .int x2, .long y3] h = hs_R scr d 39 0 [some (.ref t0), some (.int x1), some (.int x2), some (.long y3), none] [] h := by rw [hs_C, mL39]; rfl
theorem b39_0 {t0 : Nat} {x1 x2 : Int32} {y3 : Int64} (o_t0 : ok8 S R t0) : hs_R scr d 39 0 [some (.ref t0), some (.int x1), some (.int x2), some (.long y3), none] [] (S, I, L, R) = (if (900 : Int32) < (I t0 6) then hs_R scr d 39 50 [some (.ref t0), some (.int x1), some (.int x2), some (.long y3), none] [] (S, I, L, R) else (if hs_ib (I t0 6) 901 = true then (if hs_ib ((hs_u I (t0 + 3) (Int32.toNatClampNeg (I t0 6)) x1) t0 6) 901 = true then (if hs_ib ((hs_u (hs_u I (t0 + 3) (Int32.toNatClampNeg (I t0 6)) x1) (t0 + 4) (Int32.toNatClampNeg ((hs_u I (t0 + 3) (Int32.toNatClampNeg (I t0 6)) x1) t0 6)) x2) t0 6) 901 = true then hs_R scr d 39 50 [some (.ref t0), some (.int x1), some (.int x2), some (.long y3), none] [] (S, (hs_u (hs_u (hs_u I (t0 + 3) (Int32.toNatClampNeg (I t0 6)) x1) (t0 + 4) (Int32.toNatClampNeg ((hs_u I (t0 + 3) (Int32.toNatClampNeg (I t0 6)) x1) t0 6)) x2) t0 6 (((hs_u (hs_u I (t0 + 3) (Int32.toNatClampNeg (I t0 6)) x1) (t0 + 4) (Int32.toNatClampNeg ((hs_u I (t0 + 3) (Int32.toNatClampNeg (I t0 6)) x1) t0 6)) x2) t0 6) + 1)), (hs_u L (t0 + 5) (Int32.toNatClampNeg ((hs_u (hs_u I (t0 + 3) (Int32.toNatClampNeg (I t0 6)) x1) (t0 + 4) (Int32.toNatClampNeg ((hs_u I (t0 + 3) (Int32.toNatClampNeg (I t0 6)) x1) t0 6)) x2) t0 6)) y3), R) else none) else none) else none)) := Eq.trans (r_al_n d39_0 rfl) (Eq.trans (r_getI d39_1 f39_66 o_t0.2.1) (Eq.trans (r_sp d39_4 kS_900) (Eq.trans (r_cgt d39_7 rfl) (q_ite (rfl) (Eq.trans (r_al_n d39_10 rfl) (Eq.trans (r_getRe d39_11 f39_19 o_t0.2.1 (o_t0.2.2.2.2.2.2.1) (Nat.le_trans o_t0.1 (Nat.le_add_right _ _))) (Eq.trans (r_al_n d39_14 rfl) (Eq.trans (r_getI d39_15 f39_66 o_t0.2.1) (Eq.trans (r_il_n d39_18 rfl) (Eq.trans (r_iast d39_19 (o_t0.2.2.2.2.2.2.2.1)) (q_ite (Eq.trans (r_al_n d39_20 rfl) (Eq.trans (r_getRe d39_21 f39_23 o_t0.2.1 (o_t0.2.2.2.2.2.2.2.2.1) (Nat.le_trans o_t0.1 (Nat.le_add_right _ _))) (Eq.trans (r_al_n d39_24 rfl) (Eq.trans (r_getI d39_25 f39_66 o_t0.2.1) (Eq.trans (r_il_n d39_28 rfl) (Eq.trans (r_iast d39_29 (o_t0.2.2.2.2.2.2.2.2.2.1)) (q_ite (Eq.trans (r_al_n d39_30 rfl) (Eq.trans (r_getRe d39_31 f39_26 o_t0.2.1 (o_t0.2.2.2.2.2.2.2.2.2.2.1) (Nat.le_trans o_t0.1 (Nat.le_add_right _ _))) (Eq.trans (r_al_n d39_34 rfl) (Eq.trans (r_getI d39_35 f39_66 o_t0.2.1) (Eq.trans (r_ll_n d39_38 rfl) (Eq.trans (r_last d39_39 (o_t0.2.2.2.2.2.2.2.2.2.2.2)) (q_ite (Eq.trans (r_al_n d39_40 rfl) (Eq.trans (r_dup d39_41 rfl) (Eq.trans (r_getI d39_42 f39_66 o_t0.2.1) (Eq.trans (r_ic d39_45 kI_1) (Eq.trans (r_iadd d39_46) (Eq.trans (r_putI d39_47 f39_66 o_t0.2.1) (rfl))))))) rfl))))))) rfl))))))) rfl)))))))))))
theorem b39_50 {t0 : Nat} {x1 x2 : Int32} {y3 : Int64}  : hs_R scr d 39 50 [some (.ref t0), some (.int x1), some (.int x2), some (.long y3), none] [] (S, I, L, R) = some (none, (S, I, L, R)) := r_rv d39_50 rt39
theorem e40 {x0 : Int32} : hs_C scr d 40 [.int x0] h = hs_R scr d 40 0 [some (.int x0)] [] h := by rw [hs_C, mL40]; rfl
theorem b40_0 {x0 : Int32}  : hs_R scr d 40 0 [some (.int x0)] [] (S, I, L, R) = (if x0 < 48 then hs_R scr d 40 16 [some (.int x0)] [] (S, I, L, R) else (if (57 : Int32) < x0 then hs_R scr d 40 16 [some (.int x0)] [] (S, I, L, R) else hs_R scr d 40 17 [some (.int x0)] [.int 1] (S, I, L, R))) := Eq.trans (r_il_n d40_0 rfl) (Eq.trans (r_bp d40_1 kB_48) (Eq.trans (r_clt d40_3 rfl) (q_ite (rfl) (Eq.trans (r_il_n d40_6 rfl) (Eq.trans (r_bp d40_7 kB_57) (Eq.trans (r_cgt d40_9 rfl) (q_ite (rfl) (Eq.trans (r_ic d40_12 kI_1) (Eq.trans (r_goto d40_13 rfl) (rfl))))))))))
theorem b40_16 {x0 : Int32}  : hs_R scr d 40 16 [some (.int x0)] [] (S, I, L, R) = hs_R scr d 40 17 [some (.int x0)] [.int 0] (S, I, L, R) := Eq.trans (r_ic d40_16 kI_0) (rfl)
theorem b40_17 {x0 s0 : Int32}  : hs_R scr d 40 17 [some (.int x0)] [.int s0] (S, I, L, R) = (if s0 = 0 ∨ s0 = 1 then some (some (.int s0), (S, I, L, R)) else none) := r_rz d40_17 rt40
theorem e41 {t0 : Nat} {x1 : Int32} {x2 : Int32} : hs_C scr d 41 [.ref t0, .int x1, .int x2] h = hs_R scr d 41 0 [some (.ref t0), some (.int x1), some (.int x2), none, none, none] [] h := by rw [hs_C, mL41]; rfl
theorem b41_0 {t0 : Nat} {x1 x2 : Int32}  : hs_R scr d 41 0 [some (.ref t0), some (.int x1), some (.int x2), none, none, none] [] (S, I, L, R) = hs_R scr d 41 5 [some (.ref t0), some (.int x1), some (.int x2), some (.long 0), none, some (.int x1)] [] (S, I, L, R) := Eq.trans (r_lc d41_0 kL_0) (Eq.trans (r_ls_n (loc' := [some (.ref t0), some (.int x1), some (.int x2), some (.long 0), none, none]) d41_1 rfl) (Eq.trans (r_il_n d41_2 rfl) (Eq.trans (r_is (loc' := [some (.ref t0), some (.int x1), some (.int x2), some (.long 0), none, some (.int x1)]) d41_3 rfl) (rfl))))
theorem b41_5 {t0 : Nat} {x1 x2 x5 : Int32} {y3 : Int64} (o_t0 : ok8 S R t0) : hs_R scr (d + 1) 41 5 [some (.ref t0), some (.int x1), some (.int x2), some (.long y3), none, some (.int x5)] [] (S, I, L, R) = (if x2 ≤ x5 then hs_R scr (d + 1) 41 56 [some (.ref t0), some (.int x1), some (.int x2), some (.long y3), none, some (.int x5)] [] (S, I, L, R) else (if hs_ib x5 900 = true then ((hs_C scr d 40 [.int (I (t0 + 1) (Int32.toNatClampNeg x5))] (S, I, L, R)).bind fun o => hs_R scr (d + 1) 41 21 [some (.ref t0), some (.int x1), some (.int x2), some (.long y3), none, some (.int x5)] (o.1.toList ++ []) o.2) else none)) := Eq.trans (r_il d41_5 rfl) (Eq.trans (r_il_n d41_7 rfl) (Eq.trans (r_cge d41_8 rfl) (q_ite (rfl) (Eq.trans (r_al_n d41_11 rfl) (Eq.trans (r_getRe d41_12 f41_9 o_t0.2.1 (o_t0.2.2.1) (Nat.le_trans o_t0.1 (Nat.le_add_right _ _))) (Eq.trans (r_il d41_15 rfl) (Eq.trans (r_bald d41_17 (o_t0.2.2.2.1)) (q_ite (r_cs (as := [.int (I (t0 + 1) (Int32.toNatClampNeg x5))]) (r := []) d41_18 c41_79 np40.symm rfl (hs_fitE mL40 (Nat.le_of_ble_eq_true rfl))) rfl))))))))
theorem b41_21 {t0 : Nat} {x1 x2 x5 s0 : Int32} {y3 : Int64} (o_t0 : ok8 S R t0) : hs_R scr d 41 21 [some (.ref t0), some (.int x1), some (.int x2), some (.long y3), none, some (.int x5)] [.int s0] (S, I, L, R) = (if s0 = 0 then hs_R scr d 41 56 [some (.ref t0), some (.int x1), some (.int x2), some (.long y3), none, some (.int x5)] [] (S, I, L, R) else (if (4 : Int32) ≤ (x5 - x1) then hs_R scr d 41 50 [some (.ref t0), some (.int x1), some (.int x2), some (.long y3), none, some (.int x5)] [] (S, I, L, R) else (if hs_ib x5 900 = true then hs_R scr d 41 50 [some (.ref t0), some (.int x1), some (.int x2), some (.long ((y3 * 10) + (Int32.toInt64 ((I (t0 + 1) (Int32.toNatClampNeg x5)) - 48)))), none, some (.int x5)] [] (S, I, L, R) else none))) := Eq.trans (r_zeq d41_21 rfl) (q_ite (rfl) (Eq.trans (r_il d41_24 rfl) (Eq.trans (r_il_n d41_26 rfl) (Eq.trans (r_isub d41_27) (Eq.trans (r_ic d41_28 kI_4) (Eq.trans (r_cge d41_29 rfl) (q_ite (rfl) (Eq.trans (r_ll_n d41_32 rfl) (Eq.trans (r_ldc2 d41_33 cl41_97) (Eq.trans (r_lmul d41_36) (Eq.trans (r_al_n d41_37 rfl) (Eq.trans (r_getRe d41_38 f41_9 o_t0.2.1 (o_t0.2.2.1) (Nat.le_trans o_t0.1 (Nat.le_add_right _ _))) (Eq.trans (r_il d41_41 rfl) (Eq.trans (r_bald d41_43 (o_t0.2.2.2.1)) (q_ite (Eq.trans (r_bp d41_44 kB_48) (Eq.trans (r_isub d41_46) (Eq.trans (r_i2l d41_47) (Eq.trans (r_ladd d41_48) (Eq.trans (r_ls_n (loc' := [some (.ref t0), some (.int x1), some (.int x2), some (.long ((y3 * 10) + (Int32.toInt64 ((I (t0 + 1) (Int32.toNatClampNeg x5)) - 48)))), none, some (.int x5)]) d41_49 rfl) (rfl)))))) rfl)))))))))))))))
theorem b41_50 {t0 : Nat} {x1 x2 x5 : Int32} {y3 : Int64}  : hs_R scr d 41 50 [some (.ref t0), some (.int x1), some (.int x2), some (.long y3), none, some (.int x5)] [] (S, I, L, R) = hs_R scr d 41 5 [some (.ref t0), some (.int x1), some (.int x2), some (.long y3), none, some (.int (x5 + 1))] [] (S, I, L, R) := Eq.trans (r_inc (loc' := [some (.ref t0), some (.int x1), some (.int x2), some (.long y3), none, some (.int (x5 + 1))]) d41_50 kI_1 rfl rfl) (Eq.trans (r_goto d41_53 rfl) (rfl))
theorem b41_56 {t0 : Nat} {x1 x2 x5 : Int32} {y3 : Int64}  : hs_R scr d 41 56 [some (.ref t0), some (.int x1), some (.int x2), some (.long y3), none, some (.int x5)] [] (S, I, L, R) = (if (x5 - x1) ≤ 4 then hs_R scr d 41 72 [some (.ref t0), some (.int x1), some (.int x2), some (.long y3), none, some (.int x5)] [.int 32, .ref t0] (S, I, L, R) else hs_R scr d 41 72 [some (.ref t0), some (.int x1), some (.int x2), some (.long y3), none, some (.int x5)] [.int 38, .ref t0] (S, I, L, R)) := Eq.trans (r_al_n d41_56 rfl) (Eq.trans (r_il d41_57 rfl) (Eq.trans (r_il_n d41_59 rfl) (Eq.trans (r_isub d41_60) (Eq.trans (r_ic d41_61 kI_4) (Eq.trans (r_cle d41_62 rfl) (q_ite (Eq.trans (r_bp d41_70 kB_32) (rfl)) (Eq.trans (r_bp d41_65 kB_38) (Eq.trans (r_goto d41_67 rfl) (rfl)))))))))
theorem b41_72 {t0 u0 : Nat} {x1 x2 x5 s1 : Int32} {y3 : Int64} (o_u0 : ok8 S R u0) : hs_R scr (d + 1) 41 72 [some (.ref t0), some (.int x1), some (.int x2), some (.long y3), none, some (.int x5)] [.int s1, .ref u0] (S, I, L, R) = ((hs_C scr d 39 [.ref u0, .int s1, .int x1, .long y3] (S, I, L, R)).bind fun o => hs_R scr (d + 1) 41 77 [some (.ref t0), some (.int x1), some (.int x2), some (.long y3), none, some (.int x5)] (o.1.toList ++ []) o.2) := Eq.trans (r_il_n d41_72 rfl) (Eq.trans (r_ll_n d41_73 rfl) (r_cvE (as := [.int s1, .int x1, .long y3]) (r := []) d41_74 c41_89 ow39 o_u0.2.1 np39.symm rfl (hs_fitE mL39 (Nat.le_of_ble_eq_true rfl))))
theorem b41_77 {t0 : Nat} {x1 x2 x5 : Int32} {y3 : Int64}  : hs_R scr d 41 77 [some (.ref t0), some (.int x1), some (.int x2), some (.long y3), none, some (.int x5)] [] (S, I, L, R) = some (some (.int x5), (S, I, L, R)) := Eq.trans (r_il d41_77 rfl) (r_ri d41_79 rt41)
theorem e42 {x0 : Int32} : hs_C scr d 42 [.int x0] h = hs_R scr d 42 0 [some (.int x0)] [] h := by rw [hs_C, mL42]; rfl
theorem b42_0 {x0 : Int32}  : hs_R scr d 42 0 [some (.int x0)] [] (S, I, L, R) = hs_R scr d 42 (hs_swt x0 59 62 [32, 35, 41, 38] 44) [some (.int x0)] [] (S, I, L, R) := Eq.trans (r_il_n d42_0 rfl) (r_tsw d42_1 rfl rfl rfl)
theorem b42_32 {x0 : Int32}  : hs_R scr d 42 32 [some (.int x0)] [] (S, I, L, R) = some (some (.int 33), (S, I, L, R)) := Eq.trans (r_bp d42_32 kB_33) (r_ri d42_34 rt42)
theorem b42_35 {x0 : Int32}  : hs_R scr d 42 35 [some (.int x0)] [] (S, I, L, R) = some (some (.int 34), (S, I, L, R)) := Eq.trans (r_bp d42_35 kB_34) (r_ri d42_37 rt42)
theorem b42_38 {x0 : Int32}  : hs_R scr d 42 38 [some (.int x0)] [] (S, I, L, R) = some (some (.int 35), (S, I, L, R)) := Eq.trans (r_bp d42_38 kB_35) (r_ri d42_40 rt42)
theorem b42_41 {x0 : Int32}  : hs_R scr d 42 41 [some (.int x0)] [] (S, I, L, R) = some (some (.int 36), (S, I, L, R)) := Eq.trans (r_bp d42_41 kB_36) (r_ri d42_43 rt42)
theorem b42_44 {x0 : Int32}  : hs_R scr d 42 44 [some (.int x0)] [] (S, I, L, R) = some (some (.int 38), (S, I, L, R)) := Eq.trans (r_bp d42_44 kB_38) (r_ri d42_46 rt42)
theorem e43 {t0 : Nat} {t1 : Nat} {t2 : Nat} : hs_C scr d 43 [.ref t0, .ref t1, .ref t2] h = hs_R scr d 43 0 [some (.ref t0), some (.ref t1), some (.ref t2), none] [] h := by rw [hs_C, mL43]; rfl
theorem b43_0 {t0 t1 t2 : Nat} (o_t0 : ok7 S R t0) (o_t1 : ok8 S R t1) : hs_R scr d 43 0 [some (.ref t0), some (.ref t1), some (.ref t2), none] [] (S, I, L, R) = hs_R scr d 43 5 [some (.ref t0), some (.ref t1), some (.ref t2), none] [] (S, I, L, (hs_u R t0 0 t1)) := Eq.trans (r_al_n d43_0 rfl) (Eq.trans (r_al_n d43_1 rfl) (Eq.trans (r_putR d43_2 f43_9 o_t0.2.1 o_t1.1) (rfl)))
theorem b43_5 {t0 t1 t2 : Nat} (o_t0 : ok7 S R t0) (o_t2 : ok4 S R t2) : hs_R scr d 43 5 [some (.ref t0), some (.ref t1), some (.ref t2), none] [] (S, I, L, R) = hs_R scr d 43 10 [some (.ref t0), some (.ref t1), some (.ref t2), none] [] (S, I, L, (hs_u R t0 1 t2)) := Eq.trans (r_al_n d43_5 rfl) (Eq.trans (r_al_n d43_6 rfl) (Eq.trans (r_putR d43_7 f43_15 o_t0.2.1 o_t2.1) (rfl)))
theorem b43_10 {t0 t1 t2 t0_1 : Nat} (o_t0 : ok7 S R t0) (e_t0_1 : R t0 1 = t0_1) (o_t0_1 : ok4 S R t0_1) : hs_R scr (d + 1) 43 10 [some (.ref t0), some (.ref t1), some (.ref t2), none] [] (S, I, L, R) = ((hs_C scr d 9 [.ref t0_1] (S, I, L, R)).bind fun o => hs_R scr (d + 1) 43 17 [some (.ref t0), some (.ref t1), some (.ref t2), none] (o.1.toList ++ []) o.2) := Eq.trans (r_al_n d43_10 rfl) (Eq.trans (r_getRe d43_11 f43_15 o_t0.2.1 e_t0_1 o_t0_1.1) (r_cvE (as := []) (r := []) d43_14 c43_19 ow9 o_t0_1.2.1 np9.symm rfl (hs_fitE mL9 (Nat.le_of_ble_eq_true rfl))))
theorem b43_17 {t0 t1 t2 : Nat} (o_t0 : ok7 S R t0) : hs_R scr d 43 17 [some (.ref t0), some (.ref t1), some (.ref t2), none] [] (S, I, L, R) = hs_R scr d 43 29 [some (.ref t0), some (.ref t1), some (.ref t2), some (.int 0)] [] (S, (hs_u (hs_u I t0 2 0) t0 3 0), L, R) := Eq.trans (r_al_n d43_17 rfl) (Eq.trans (r_ic d43_18 kI_0) (Eq.trans ((r_putZ d43_19 f43_24 o_t0.2.1).trans (if_pos (Or.inl rfl))) (Eq.trans (r_al_n d43_22 rfl) (Eq.trans (r_ic d43_23 kI_0) (Eq.trans ((r_putZ d43_24 f43_28 o_t0.2.1).trans (if_pos (Or.inl rfl))) (Eq.trans (r_ic d43_27 kI_0) (Eq.trans (r_is_n (loc' := [some (.ref t0), some (.ref t1), some (.ref t2), some (.int 0)]) d43_28 rfl) (rfl))))))))
theorem b43_29 {t0 t1 t2 t0_0 : Nat} {x3 : Int32} (o_t0 : ok7 S R t0) (e_t0_0 : R t0 0 = t0_0) (o_t0_0 : ok8 S R t0_0) : hs_R scr (d + 1) 43 29 [some (.ref t0), some (.ref t1), some (.ref t2), some (.int x3)] [] (S, I, L, R) = (if (900 : Int32) < x3 then some (some (.int 0), (S, I, L, R)) else ((hs_C scr d 44 [.ref t0_0] (S, I, L, R)).bind fun o => hs_R scr (d + 1) 43 43 [some (.ref t0), some (.ref t1), some (.ref t2), some (.int x3)] (o.1.toList ++ []) o.2)) := Eq.trans (r_il_n d43_29 rfl) (Eq.trans (r_sp d43_30 kS_900) (Eq.trans (r_cgt d43_33 rfl) (q_ite (Eq.trans (r_ic d43_94 kI_0) ((r_rz d43_95 rt43).trans (if_pos (Or.inl rfl)))) (Eq.trans (r_al_n d43_36 rfl) (Eq.trans (r_getRe d43_37 f43_9 o_t0.2.1 e_t0_0 o_t0_0.1) (r_cvE (as := []) (r := []) d43_40 c43_31 ow44 o_t0_0.2.1 np44.symm rfl (hs_fitE mL44 (Nat.le_of_ble_eq_true rfl))))))))
theorem b43_43 {t0 t1 t2 t0_0 t0_1 : Nat} {x3 : Int32} (o_t0 : ok7 S R t0) (e_t0_0 : R t0 0 = t0_0) (o_t0_0 : ok8 S R t0_0) (e_t0_1 : R t0 1 = t0_1) (o_t0_1 : ok4 S R t0_1) : hs_R scr (d + 1) 43 43 [some (.ref t0), some (.ref t1), some (.ref t2), some (.int x3)] [] (S, I, L, R) = (if (I t0_0 8) = 37 then (if (I t0_1 9) ≤ 0 then hs_R scr (d + 1) 43 74 [some (.ref t0), some (.ref t1), some (.ref t2), some (.int x3)] [.int (-1), .ref t0_1] (S, I, L, R) else hs_R scr (d + 1) 43 74 [some (.ref t0), some (.ref t1), some (.ref t2), some (.int x3)] [.int 0, .ref t0_1] (S, I, L, R)) else ((hs_C scr d 45 [.ref t0] (S, I, L, R)).bind fun o => hs_R scr (d + 1) 43 83 [some (.ref t0), some (.ref t1), some (.ref t2), some (.int x3)] (o.1.toList ++ []) o.2)) := Eq.trans (r_al_n d43_43 rfl) (Eq.trans (r_getRe d43_44 f43_9 o_t0.2.1 e_t0_0 o_t0_0.1) (Eq.trans (r_getI d43_47 f43_36 o_t0_0.2.1) (Eq.trans (r_bp d43_50 kB_37) (Eq.trans (r_cne d43_52 rfl) (q_ite (Eq.trans (r_al_n d43_55 rfl) (Eq.trans (r_getRe d43_56 f43_15 o_t0.2.1 e_t0_1 o_t0_1.1) (Eq.trans (r_al_n d43_59 rfl) (Eq.trans (r_getRe d43_60 f43_15 o_t0.2.1 e_t0_1 o_t0_1.1) (Eq.trans (r_getI d43_63 f43_40 o_t0_1.2.1) (Eq.trans (r_zle d43_66 rfl) (q_ite (Eq.trans (r_ic d43_73 kI_m1) (rfl)) (Eq.trans (r_ic d43_69 kI_0) (Eq.trans (r_goto d43_70 rfl) (rfl)))))))))) (Eq.trans (r_al_n d43_79 rfl) (r_cvE (as := []) (r := []) d43_80 c43_46 ow45 o_t0.2.1 np45.symm rfl (hs_fitE mL45 (Nat.le_of_ble_eq_true rfl)))))))))
theorem b43_74 {t0 t1 t2 u0 : Nat} {x3 s1 : Int32} (o_u0 : ok4 S R u0) : hs_R scr d 43 74 [some (.ref t0), some (.ref t1), some (.ref t2), some (.int x3)] [.int s1, .ref u0] (S, I, L, R) = some (some (.int 1), (S, (hs_u I u0 17 s1), L, R)) := Eq.trans (r_putI d43_74 f43_43 o_u0.2.1) (Eq.trans (r_ic d43_77 kI_1) ((r_rz d43_78 rt43).trans (if_pos (Or.inr rfl))))
theorem b43_83 {t0 t1 t2 : Nat} {x3 s0 : Int32}  : hs_R scr d 43 83 [some (.ref t0), some (.ref t1), some (.ref t2), some (.int x3)] [.int s0] (S, I, L, R) = (if s0 = 0 then some (some (.int 0), (S, I, L, R)) else hs_R scr d 43 29 [some (.ref t0), some (.ref t1), some (.ref t2), some (.int (x3 + 1))] [] (S, I, L, R)) := Eq.trans (r_zne d43_83 rfl) (q_ite (Eq.trans (r_ic d43_86 kI_0) ((r_rz d43_87 rt43).trans (if_pos (Or.inl rfl)))) (Eq.trans (r_inc (loc' := [some (.ref t0), some (.ref t1), some (.ref t2), some (.int (x3 + 1))]) d43_88 kI_1 rfl rfl) (Eq.trans (r_goto d43_91 rfl) (rfl))))
theorem e44 {t0 : Nat} : hs_C scr d 44 [.ref t0] h = hs_R scr d 44 0 [some (.ref t0)] [] h := by rw [hs_C, mL44]; rfl
theorem b44_0 {t0 : Nat} (o_t0 : ok8 S R t0) : hs_R scr d 44 0 [some (.ref t0)] [] (S, I, L, R) = (if (I t0 6) ≤ (I t0 7) then hs_R scr d 44 60 [some (.ref t0)] [] (S, I, L, R) else (if hs_ib (I t0 7) 901 = true then (if hs_ib ((hs_u I t0 8 (I (t0 + 3) (Int32.toNatClampNeg (I t0 7)))) t0 7) 901 = true then (if hs_ib ((hs_u (hs_u I t0 8 (I (t0 + 3) (Int32.toNatClampNeg (I t0 7)))) t0 9 ((hs_u I t0 8 (I (t0 + 3) (Int32.toNatClampNeg (I t0 7)))) (t0 + 4) (Int32.toNatClampNeg ((hs_u I t0 8 (I (t0 + 3) (Int32.toNatClampNeg (I t0 7)))) t0 7)))) t0 7) 901 = true then hs_R scr d 44 60 [some (.ref t0)] [] (S, (hs_u (hs_u (hs_u I t0 8 (I (t0 + 3) (Int32.toNatClampNeg (I t0 7)))) t0 9 ((hs_u I t0 8 (I (t0 + 3) (Int32.toNatClampNeg (I t0 7)))) (t0 + 4) (Int32.toNatClampNeg ((hs_u I t0 8 (I (t0 + 3) (Int32.toNatClampNeg (I t0 7)))) t0 7)))) t0 7 (((hs_u (hs_u I t0 8 (I (t0 + 3) (Int32.toNatClampNeg (I t0 7)))) t0 9 ((hs_u I t0 8 (I (t0 + 3) (Int32.toNatClampNeg (I t0 7)))) (t0 + 4) (Int32.toNatClampNeg ((hs_u I t0 8 (I (t0 + 3) (Int32.toNatClampNeg (I t0 7)))) t0 7)))) t0 7) + 1)), (hs_u L t0 10 (L (t0 + 5) (Int32.toNatClampNeg ((hs_u (hs_u I t0 8 (I (t0 + 3) (Int32.toNatClampNeg (I t0 7)))) t0 9 ((hs_u I t0 8 (I (t0 + 3) (Int32.toNatClampNeg (I t0 7)))) (t0 + 4) (Int32.toNatClampNeg ((hs_u I t0 8 (I (t0 + 3) (Int32.toNatClampNeg (I t0 7)))) t0 7)))) t0 7)))), R) else none) else none) else none)) := Eq.trans (r_al_n d44_0 rfl) (Eq.trans (r_getI d44_1 f44_69 o_t0.2.1) (Eq.trans (r_al_n d44_4 rfl) (Eq.trans (r_getI d44_5 f44_66 o_t0.2.1) (Eq.trans (r_cge d44_8 rfl) (q_ite (rfl) (Eq.trans (r_al_n d44_11 rfl) (Eq.trans (r_al_n d44_12 rfl) (Eq.trans (r_getRe d44_13 f44_19 o_t0.2.1 (o_t0.2.2.2.2.2.2.1) (Nat.le_trans o_t0.1 (Nat.le_add_right _ _))) (Eq.trans (r_al_n d44_16 rfl) (Eq.trans (r_getI d44_17 f44_69 o_t0.2.1) (Eq.trans (r_iald d44_20 (o_t0.2.2.2.2.2.2.2.1)) (q_ite (Eq.trans (r_putI d44_21 f44_29 o_t0.2.1) (Eq.trans (r_al_n d44_24 rfl) (Eq.trans (r_al_n d44_25 rfl) (Eq.trans (r_getRe d44_26 f44_23 o_t0.2.1 (o_t0.2.2.2.2.2.2.2.2.1) (Nat.le_trans o_t0.1 (Nat.le_add_right _ _))) (Eq.trans (r_al_n d44_29 rfl) (Eq.trans (r_getI d44_30 f44_69 o_t0.2.1) (Eq.trans (r_iald d44_33 (o_t0.2.2.2.2.2.2.2.2.2.1)) (q_ite (Eq.trans (r_putI d44_34 f44_99 o_t0.2.1) (Eq.trans (r_al_n d44_37 rfl) (Eq.trans (r_al_n d44_38 rfl) (Eq.trans (r_getRe d44_39 f44_26 o_t0.2.1 (o_t0.2.2.2.2.2.2.2.2.2.2.1) (Nat.le_trans o_t0.1 (Nat.le_add_right _ _))) (Eq.trans (r_al_n d44_42 rfl) (Eq.trans (r_getI d44_43 f44_69 o_t0.2.1) (Eq.trans (r_lald d44_46 (o_t0.2.2.2.2.2.2.2.2.2.2.2)) (q_ite (Eq.trans (r_putL d44_47 f44_102 o_t0.2.1) (Eq.trans (r_al_n d44_50 rfl) (Eq.trans (r_dup d44_51 rfl) (Eq.trans (r_getI d44_52 f44_69 o_t0.2.1) (Eq.trans (r_ic d44_55 kI_1) (Eq.trans (r_iadd d44_56) (Eq.trans (r_putI d44_57 f44_69 o_t0.2.1) (rfl)))))))) rfl)))))))) rfl)))))))) rfl))))))))))))
theorem b44_60 {t0 : Nat}  : hs_R scr d 44 60 [some (.ref t0)] [] (S, I, L, R) = some (none, (S, I, L, R)) := r_rv d44_60 rt44
theorem e45 {t0 : Nat} : hs_C scr d 45 [.ref t0] h = hs_R scr d 45 0 [some (.ref t0)] [] h := by rw [hs_C, mL45]; rfl
theorem b45_0 {t0 t0_0 : Nat} (o_t0 : ok7 S R t0) (e_t0_0 : R t0 0 = t0_0) (o_t0_0 : ok8 S R t0_0) : hs_R scr d 45 0 [some (.ref t0)] [] (S, I, L, R) = hs_R scr d 45 (hs_swt (I t0_0 8) 0 16 [88, 93, 98, 128, 128, 128, 128, 128, 128, 103, 128, 128, 108, 128, 113, 118, 123] 128) [some (.ref t0)] [] (S, I, L, R) := Eq.trans (r_al_n d45_0 rfl) (Eq.trans (r_getRe d45_1 f45_9 o_t0.2.1 e_t0_0 o_t0_0.1) (Eq.trans (r_getI d45_4 f45_36 o_t0_0.2.1) (r_tsw d45_7 rfl rfl rfl)))
theorem b45_88 {t0 : Nat} (o_t0 : ok7 S R t0) : hs_R scr (d + 1) 45 88 [some (.ref t0)] [] (S, I, L, R) = ((hs_C scr d 46 [.ref t0] (S, I, L, R)).bind fun o => hs_R scr (d + 1) 45 92 [some (.ref t0)] (o.1.toList ++ []) o.2) := Eq.trans (r_al_n d45_88 rfl) (r_cvE (as := []) (r := []) d45_89 c45_50 ow46 o_t0.2.1 np46.symm rfl (hs_fitE mL46 (Nat.le_of_ble_eq_true rfl)))
theorem b45_92 {t0 : Nat} {s0 : Int32}  : hs_R scr d 45 92 [some (.ref t0)] [.int s0] (S, I, L, R) = (if s0 = 0 ∨ s0 = 1 then some (some (.int s0), (S, I, L, R)) else none) := r_rz d45_92 rt45
theorem b45_93 {t0 : Nat} (o_t0 : ok7 S R t0) : hs_R scr (d + 1) 45 93 [some (.ref t0)] [] (S, I, L, R) = ((hs_C scr d 51 [.ref t0] (S, I, L, R)).bind fun o => hs_R scr (d + 1) 45 97 [some (.ref t0)] (o.1.toList ++ []) o.2) := Eq.trans (r_al_n d45_93 rfl) (r_cvE (as := []) (r := []) d45_94 c45_53 ow51 o_t0.2.1 np51.symm rfl (hs_fitE mL51 (Nat.le_of_ble_eq_true rfl)))
theorem b45_97 {t0 : Nat} {s0 : Int32}  : hs_R scr d 45 97 [some (.ref t0)] [.int s0] (S, I, L, R) = (if s0 = 0 ∨ s0 = 1 then some (some (.int s0), (S, I, L, R)) else none) := r_rz d45_97 rt45
theorem b45_98 {t0 : Nat} (o_t0 : ok7 S R t0) : hs_R scr (d + 1) 45 98 [some (.ref t0)] [] (S, I, L, R) = ((hs_C scr d 52 [.ref t0] (S, I, L, R)).bind fun o => hs_R scr (d + 1) 45 102 [some (.ref t0)] (o.1.toList ++ []) o.2) := Eq.trans (r_al_n d45_98 rfl) (r_cvE (as := []) (r := []) d45_99 c45_56 ow52 o_t0.2.1 np52.symm rfl (hs_fitE mL52 (Nat.le_of_ble_eq_true rfl)))
theorem b45_102 {t0 : Nat} {s0 : Int32}  : hs_R scr d 45 102 [some (.ref t0)] [.int s0] (S, I, L, R) = (if s0 = 0 ∨ s0 = 1 then some (some (.int s0), (S, I, L, R)) else none) := r_rz d45_102 rt45
theorem b45_103 {t0 : Nat} (o_t0 : ok7 S R t0) : hs_R scr (d + 1) 45 103 [some (.ref t0)] [] (S, I, L, R) = ((hs_C scr d 59 [.ref t0] (S, I, L, R)).bind fun o => hs_R scr (d + 1) 45 107 [some (.ref t0)] (o.1.toList ++ []) o.2) := Eq.trans (r_al_n d45_103 rfl) (r_cvE (as := []) (r := []) d45_104 c45_59 ow59 o_t0.2.1 np59.symm rfl (hs_fitE mL59 (Nat.le_of_ble_eq_true rfl)))
theorem b45_107 {t0 : Nat} {s0 : Int32}  : hs_R scr d 45 107 [some (.ref t0)] [.int s0] (S, I, L, R) = (if s0 = 0 ∨ s0 = 1 then some (some (.int s0), (S, I, L, R)) else none) := r_rz d45_107 rt45
theorem b45_108 {t0 : Nat} (o_t0 : ok7 S R t0) : hs_R scr (d + 1) 45 108 [some (.ref t0)] [] (S, I, L, R) = ((hs_C scr d 60 [.ref t0] (S, I, L, R)).bind fun o => hs_R scr (d + 1) 45 112 [some (.ref t0)] (o.1.toList ++ []) o.2) := Eq.trans (r_al_n d45_108 rfl) (r_cvE (as := []) (r := []) d45_109 c45_62 ow60 o_t0.2.1 np60.symm rfl (hs_fitE mL60 (Nat.le_of_ble_eq_true rfl)))
theorem b45_112 {t0 : Nat} {s0 : Int32}  : hs_R scr d 45 112 [some (.ref t0)] [.int s0] (S, I, L, R) = (if s0 = 0 ∨ s0 = 1 then some (some (.int s0), (S, I, L, R)) else none) := r_rz d45_112 rt45
theorem b45_113 {t0 : Nat} (o_t0 : ok7 S R t0) : hs_R scr (d + 1) 45 113 [some (.ref t0)] [] (S, I, L, R) = ((hs_C scr d 61 [.ref t0] (S, I, L, R)).bind fun o => hs_R scr (d + 1) 45 117 [some (.ref t0)] (o.1.toList ++ []) o.2) := Eq.trans (r_al_n d45_113 rfl) (r_cvE (as := []) (r := []) d45_114 c45_65 ow61 o_t0.2.1 np61.symm rfl (hs_fitE mL61 (Nat.le_of_ble_eq_true rfl)))
theorem b45_117 {t0 : Nat} {s0 : Int32}  : hs_R scr d 45 117 [some (.ref t0)] [.int s0] (S, I, L, R) = (if s0 = 0 ∨ s0 = 1 then some (some (.int s0), (S, I, L, R)) else none) := r_rz d45_117 rt45
theorem b45_118 {t0 : Nat} (o_t0 : ok7 S R t0) : hs_R scr (d + 1) 45 118 [some (.ref t0)] [] (S, I, L, R) = ((hs_C scr d 63 [.ref t0] (S, I, L, R)).bind fun o => hs_R scr (d + 1) 45 122 [some (.ref t0)] (o.1.toList ++ []) o.2) := Eq.trans (r_al_n d45_118 rfl) (r_cvE (as := []) (r := []) d45_119 c45_68 ow63 o_t0.2.1 np63.symm rfl (hs_fitE mL63 (Nat.le_of_ble_eq_true rfl)))
theorem b45_122 {t0 : Nat} {s0 : Int32}  : hs_R scr d 45 122 [some (.ref t0)] [.int s0] (S, I, L, R) = (if s0 = 0 ∨ s0 = 1 then some (some (.int s0), (S, I, L, R)) else none) := r_rz d45_122 rt45
theorem b45_123 {t0 : Nat} (o_t0 : ok7 S R t0) : hs_R scr (d + 1) 45 123 [some (.ref t0)] [] (S, I, L, R) = ((hs_C scr d 64 [.ref t0] (S, I, L, R)).bind fun o => hs_R scr (d + 1) 45 127 [some (.ref t0)] (o.1.toList ++ []) o.2) := Eq.trans (r_al_n d45_123 rfl) (r_cvE (as := []) (r := []) d45_124 c45_71 ow64 o_t0.2.1 np64.symm rfl (hs_fitE mL64 (Nat.le_of_ble_eq_true rfl)))
theorem b45_127 {t0 : Nat} {s0 : Int32}  : hs_R scr d 45 127 [some (.ref t0)] [.int s0] (S, I, L, R) = (if s0 = 0 ∨ s0 = 1 then some (some (.int s0), (S, I, L, R)) else none) := r_rz d45_127 rt45
theorem b45_128 {t0 t0_0 : Nat} (o_t0 : ok7 S R t0) (e_t0_0 : R t0 0 = t0_0) (o_t0_0 : ok8 S R t0_0) : hs_R scr (d + 1) 45 128 [some (.ref t0)] [] (S, I, L, R) = ((hs_C scr d 47 [.ref t0_0, .int 2] (S, I, L, R)).bind fun o => hs_R scr (d + 1) 45 136 [some (.ref t0)] (o.1.toList ++ []) o.2) := Eq.trans (r_al_n d45_128 rfl) (Eq.trans (r_getRe d45_129 f45_9 o_t0.2.1 e_t0_0 o_t0_0.1) (Eq.trans (r_ic d45_132 kI_2) (r_cvE (as := [.int 2]) (r := []) d45_133 c45_74 ow47 o_t0_0.2.1 np47.symm rfl (hs_fitE mL47 (Nat.le_of_ble_eq_true rfl)))))
theorem b45_136 {t0 : Nat} {s0 : Int32}  : hs_R scr d 45 136 [some (.ref t0)] [.int s0] (S, I, L, R) = (if s0 = 0 ∨ s0 = 1 then some (some (.int s0), (S, I, L, R)) else none) := r_rz d45_136 rt45
theorem e46 {t0 : Nat} : hs_C scr d 46 [.ref t0] h = hs_R scr d 46 0 [some (.ref t0)] [] h := by rw [hs_C, mL46]; rfl
theorem b46_0 {t0 t0_0 : Nat} (o_t0 : ok7 S R t0) (e_t0_0 : R t0 0 = t0_0) (o_t0_0 : ok8 S R t0_0) : hs_R scr (d + 1) 46 0 [some (.ref t0)] [] (S, I, L, R) = (if (I t0 2) = 0 then ((hs_C scr d 48 [.ref t0_0, .int 0, .int 16] (S, (hs_u I t0 2 1), L, R)).bind fun o => hs_R scr (d + 1) 46 31 [some (.ref t0)] (o.1.toList ++ []) o.2) else ((hs_C scr d 47 [.ref t0_0, .int 5] (S, I, L, R)).bind fun o => hs_R scr (d + 1) 46 15 [some (.ref t0)] (o.1.toList ++ []) o.2)) := Eq.trans (r_al_n d46_0 rfl) (Eq.trans (r_getZ d46_1 f46_24 o_t0.2.1) (Eq.trans (r_zeq d46_4 rfl) (q_ite (Eq.trans (r_al_n d46_16 rfl) (Eq.trans (r_ic d46_17 kI_1) (Eq.trans ((r_putZ d46_18 f46_24 o_t0.2.1).trans (if_pos (Or.inr rfl))) (Eq.trans (r_al_n d46_21 rfl) (Eq.trans (r_getRe d46_22 f46_9 o_t0.2.1 e_t0_0 o_t0_0.1) (Eq.trans (r_ic d46_25 kI_0) (Eq.trans (r_bp d46_26 kB_16) (r_cvE (as := [.int 0, .int 16]) (r := []) d46_28 c46_78 ow48 o_t0_0.2.1 np48.symm rfl (hs_fitE mL48 (Nat.le_of_ble_eq_true rfl)))))))))) (Eq.trans (r_al_n d46_7 rfl) (Eq.trans (r_getRe d46_8 f46_9 o_t0.2.1 e_t0_0 o_t0_0.1) (Eq.trans (r_ic d46_11 kI_5) (r_cvE (as := [.int 5]) (r := []) d46_12 c46_74 ow47 o_t0_0.2.1 np47.symm rfl (hs_fitE mL47 (Nat.le_of_ble_eq_true rfl)))))))))
theorem b46_15 {t0 : Nat} {s0 : Int32}  : hs_R scr d 46 15 [some (.ref t0)] [.int s0] (S, I, L, R) = (if s0 = 0 ∨ s0 = 1 then some (some (.int s0), (S, I, L, R)) else none) := r_rz d46_15 rt46
theorem b46_31 {t0 t0_1 t0_0 : Nat} {s0 : Int32} (o_t0 : ok7 S R t0) (e_t0_1 : R t0 1 = t0_1) (o_t0_1 : ok4 S R t0_1) (e_t0_0 : R t0 0 = t0_0) (o_t0_0 : ok8 S R t0_0) : hs_R scr (d + 1) 46 31 [some (.ref t0)] [.int s0] (S, I, L, R) = (if s0 = 0 then some (some (.int 0), (S, I, L, R)) else ((hs_C scr d 50 [.ref t0_0] (S, I, L, R)).bind fun o => hs_R scr (d + 1) 46 47 [some (.ref t0)] (o.1.toList ++ [.ref t0_1]) o.2)) := Eq.trans (r_zne d46_31 rfl) (q_ite (Eq.trans (r_ic d46_34 kI_0) ((r_rz d46_35 rt46).trans (if_pos (Or.inl rfl)))) (Eq.trans (r_al_n d46_36 rfl) (Eq.trans (r_getRe d46_37 f46_15 o_t0.2.1 e_t0_1 o_t0_1.1) (Eq.trans (r_al_n d46_40 rfl) (Eq.trans (r_getRe d46_41 f46_9 o_t0.2.1 e_t0_0 o_t0_0.1) (r_cvE (as := []) (r := [.ref t0_1]) d46_44 c46_82 ow50 o_t0_0.2.1 np50.symm rfl (hs_fitE mL50 (Nat.le_of_ble_eq_true rfl))))))))
theorem b46_47 {t0 u0 t0_0 : Nat} {s1 : Int32} (o_u0 : ok4 S R u0) (o_t0 : ok7 S R t0) (e_t0_0 : R t0 0 = t0_0) (o_t0_0 : ok8 S R t0_0) : hs_R scr (d + 1) 46 47 [some (.ref t0)] [.int s1, .ref u0] (S, I, L, R) = ((hs_C scr d 49 [.ref t0_0, .int 33] (S, (hs_u I u0 13 s1), L, R)).bind fun o => hs_R scr (d + 1) 46 59 [some (.ref t0)] (o.1.toList ++ []) o.2) := Eq.trans (r_putI d46_47 f46_86 o_u0.2.1) (Eq.trans (r_al_n d46_50 rfl) (Eq.trans (r_getRe d46_51 f46_9 o_t0.2.1 e_t0_0 o_t0_0.1) (Eq.trans (r_bp d46_54 kB_33) (r_cvE (as := [.int 33]) (r := []) d46_56 c46_89 ow49 o_t0_0.2.1 np49.symm rfl (hs_fitE mL49 (Nat.le_of_ble_eq_true rfl))))))
theorem b46_59 {t0 : Nat} {s0 : Int32}  : hs_R scr d 46 59 [some (.ref t0)] [.int s0] (S, I, L, R) = (if s0 = 0 ∨ s0 = 1 then some (some (.int s0), (S, I, L, R)) else none) := r_rz d46_59 rt46
theorem e47 {t0 : Nat} {x1 : Int32} : hs_C scr d 47 [.ref t0, .int x1] h = hs_R scr d 47 0 [some (.ref t0), some (.int x1)] [] h := by rw [hs_C, mL47]; rfl
theorem b47_0 {t0 : Nat} {x1 : Int32} (o_t0 : ok8 S R t0) : hs_R scr d 47 0 [some (.ref t0), some (.int x1)] [] (S, I, L, R) = (if (I t0 8) = 38 then hs_R scr d 47 15 [some (.ref t0), some (.int x1)] [.int 1, .ref t0] (S, I, L, R) else hs_R scr d 47 15 [some (.ref t0), some (.int x1)] [.int x1, .ref t0] (S, I, L, R)) := Eq.trans (r_al_n d47_0 rfl) (Eq.trans (r_al_n d47_1 rfl) (Eq.trans (r_getI d47_2 f47_29 o_t0.2.1) (Eq.trans (r_bp d47_5 kB_38) (Eq.trans (r_cne d47_7 rfl) (q_ite (Eq.trans (r_ic d47_10 kI_1) (Eq.trans (r_goto d47_11 rfl) (rfl))) (Eq.trans (r_il_n d47_14 rfl) (rfl)))))))
theorem b47_15 {t0 u0 : Nat} {x1 s1 : Int32} (o_u0 : ok8 S R u0) (o_t0 : ok8 S R t0) : hs_R scr d 47 15 [some (.ref t0), some (.int x1)] [.int s1, .ref u0] (S, I, L, R) = some (some (.int 0), (S, (hs_u (hs_u I u0 11 s1) t0 12 ((hs_u I u0 11 s1) t0 9)), L, R)) := Eq.trans (r_putI d47_15 f47_33 o_u0.2.1) (Eq.trans (r_al_n d47_18 rfl) (Eq.trans (r_al_n d47_19 rfl) (Eq.trans (r_getI d47_20 f47_99 o_t0.2.1) (Eq.trans (r_putI d47_23 f47_36 o_t0.2.1) (Eq.trans (r_ic d47_26 kI_0) ((r_rz d47_27 rt47).trans (if_pos (Or.inl rfl))))))))
theorem e48 {t0 : Nat} {x1 : Int32} {x2 : Int32} : hs_C scr d 48 [.ref t0, .int x1, .int x2] h = hs_R scr d 48 0 [some (.ref t0), some (.int x1), some (.int x2)] [] h := by rw [hs_C, mL48]; rfl
theorem b48_0 {t0 : Nat} {x1 x2 : Int32} (o_t0 : ok8 S R t0) : hs_R scr (d + 1) 48 0 [some (.ref t0), some (.int x1), some (.int x2)] [] (S, I, L, R) = ((hs_C scr d 49 [.ref t0, .int 32] (S, I, L, R)).bind fun o => hs_R scr (d + 1) 48 6 [some (.ref t0), some (.int x1), some (.int x2)] (o.1.toList ++ []) o.2) := Eq.trans (r_al_n d48_0 rfl) (Eq.trans (r_bp d48_1 kB_32) (r_cvE (as := [.int 32]) (r := []) d48_3 c48_112 ow49 o_t0.2.1 np49.symm rfl (hs_fitE mL49 (Nat.le_of_ble_eq_true rfl))))
theorem b48_6 {t0 : Nat} {x1 x2 s0 : Int32} (o_t0 : ok8 S R t0) : hs_R scr d 48 6 [some (.ref t0), some (.int x1), some (.int x2)] [.int s0] (S, I, L, R) = (if s0 = 0 then some (some (.int 0), (S, I, L, R)) else (if (lg_cmp (L t0 10) (Int32.toInt64 x1)) < 0 then hs_R scr d 48 31 [some (.ref t0), some (.int x1), some (.int x2)] [] (S, I, L, R) else (if (lg_cmp (L t0 10) (Int32.toInt64 x2)) ≤ 0 then hs_R scr d 48 39 [some (.ref t0), some (.int x1), some (.int x2)] [] (S, I, L, R) else hs_R scr d 48 31 [some (.ref t0), some (.int x1), some (.int x2)] [] (S, I, L, R)))) := Eq.trans (r_zne d48_6 rfl) (q_ite (Eq.trans (r_ic d48_9 kI_0) ((r_rz d48_10 rt48).trans (if_pos (Or.inl rfl)))) (Eq.trans (r_al_n d48_11 rfl) (Eq.trans (r_getL d48_12 f48_102 o_t0.2.1) (Eq.trans (r_il_n d48_15 rfl) (Eq.trans (r_i2l d48_16) (Eq.trans (r_lcmp d48_17) (Eq.trans (r_zlt d48_18 rfl) (q_ite (rfl) (Eq.trans (r_al_n d48_21 rfl) (Eq.trans (r_getL d48_22 f48_102 o_t0.2.1) (Eq.trans (r_il_n d48_25 rfl) (Eq.trans (r_i2l d48_26) (Eq.trans (r_lcmp d48_27) (Eq.trans (r_zle d48_28 rfl) (q_ite (rfl) (rfl))))))))))))))))
theorem b48_31 {t0 : Nat} {x1 x2 : Int32} (o_t0 : ok8 S R t0) : hs_R scr (d + 1) 48 31 [some (.ref t0), some (.int x1), some (.int x2)] [] (S, I, L, R) = ((hs_C scr d 47 [.ref t0, .int 4] (S, I, L, R)).bind fun o => hs_R scr (d + 1) 48 36 [some (.ref t0), some (.int x1), some (.int x2)] (o.1.toList ++ []) o.2) := Eq.trans (r_al_n d48_31 rfl) (Eq.trans (r_ic d48_32 kI_4) (r_cvE (as := [.int 4]) (r := []) d48_33 c48_109 ow47 o_t0.2.1 np47.symm rfl (hs_fitE mL47 (Nat.le_of_ble_eq_true rfl))))
theorem b48_36 {t0 : Nat} {x1 x2 s0 : Int32}  : hs_R scr d 48 36 [some (.ref t0), some (.int x1), some (.int x2)] [.int s0] (S, I, L, R) = (if s0 = 0 then hs_R scr d 48 44 [some (.ref t0), some (.int x1), some (.int x2)] [.int 0] (S, I, L, R) else hs_R scr d 48 39 [some (.ref t0), some (.int x1), some (.int x2)] [] (S, I, L, R)) := Eq.trans (r_zeq d48_36 rfl) (q_ite (Eq.trans (r_ic d48_43 kI_0) (rfl)) (rfl))
theorem b48_39 {t0 : Nat} {x1 x2 : Int32}  : hs_R scr d 48 39 [some (.ref t0), some (.int x1), some (.int x2)] [] (S, I, L, R) = hs_R scr d 48 44 [some (.ref t0), some (.int x1), some (.int x2)] [.int 1] (S, I, L, R) := Eq.trans (r_ic d48_39 kI_1) (Eq.trans (r_goto d48_40 rfl) (rfl))
theorem b48_44 {t0 : Nat} {x1 x2 s0 : Int32}  : hs_R scr d 48 44 [some (.ref t0), some (.int x1), some (.int x2)] [.int s0] (S, I, L, R) = (if s0 = 0 ∨ s0 = 1 then some (some (.int s0), (S, I, L, R)) else none) := r_rz d48_44 rt48
theorem e49 {t0 : Nat} {x1 : Int32} : hs_C scr d 49 [.ref t0, .int x1] h = hs_R scr d 49 0 [some (.ref t0), some (.int x1)] [] h := by rw [hs_C, mL49]; rfl
theorem b49_0 {t0 : Nat} {x1 : Int32} (o_t0 : ok8 S R t0) : hs_R scr (d + 1) 49 0 [some (.ref t0), some (.int x1)] [] (S, I, L, R) = ((hs_C scr d 44 [.ref t0] (S, I, L, R)).bind fun o => hs_R scr (d + 1) 49 4 [some (.ref t0), some (.int x1)] (o.1.toList ++ []) o.2) := Eq.trans (r_al_n d49_0 rfl) (r_cvE (as := []) (r := []) d49_1 c49_106 ow44 o_t0.2.1 np44.symm rfl (hs_fitE mL44 (Nat.le_of_ble_eq_true rfl)))
theorem b49_4 {t0 : Nat} {x1 : Int32} (o_t0 : ok8 S R t0) : hs_R scr (d + 1) 49 4 [some (.ref t0), some (.int x1)] [] (S, I, L, R) = (if (I t0 8) = x1 then hs_R scr (d + 1) 49 20 [some (.ref t0), some (.int x1)] [] (S, I, L, R) else ((hs_C scr d 47 [.ref t0, .int 2] (S, I, L, R)).bind fun o => hs_R scr (d + 1) 49 17 [some (.ref t0), some (.int x1)] (o.1.toList ++ []) o.2)) := Eq.trans (r_al_n d49_4 rfl) (Eq.trans (r_getI d49_5 f49_29 o_t0.2.1) (Eq.trans (r_il_n d49_8 rfl) (Eq.trans (r_ceq d49_9 rfl) (q_ite (rfl) (Eq.trans (r_al_n d49_12 rfl) (Eq.trans (r_ic d49_13 kI_2) (r_cvE (as := [.int 2]) (r := []) d49_14 c49_109 ow47 o_t0.2.1 np47.symm rfl (hs_fitE mL47 (Nat.le_of_ble_eq_true rfl)))))))))
theorem b49_17 {t0 : Nat} {x1 s0 : Int32}  : hs_R scr d 49 17 [some (.ref t0), some (.int x1)] [.int s0] (S, I, L, R) = (if s0 = 0 then hs_R scr d 49 25 [some (.ref t0), some (.int x1)] [.int 0] (S, I, L, R) else hs_R scr d 49 20 [some (.ref t0), some (.int x1)] [] (S, I, L, R)) := Eq.trans (r_zeq d49_17 rfl) (q_ite (Eq.trans (r_ic d49_24 kI_0) (rfl)) (rfl))
theorem b49_20 {t0 : Nat} {x1 : Int32}  : hs_R scr d 49 20 [some (.ref t0), some (.int x1)] [] (S, I, L, R) = hs_R scr d 49 25 [some (.ref t0), some (.int x1)] [.int 1] (S, I, L, R) := Eq.trans (r_ic d49_20 kI_1) (Eq.trans (r_goto d49_21 rfl) (rfl))
theorem b49_25 {t0 : Nat} {x1 s0 : Int32}  : hs_R scr d 49 25 [some (.ref t0), some (.int x1)] [.int s0] (S, I, L, R) = (if s0 = 0 ∨ s0 = 1 then some (some (.int s0), (S, I, L, R)) else none) := r_rz d49_25 rt49
theorem e50 {t0 : Nat} : hs_C scr d 50 [.ref t0] h = hs_R scr d 50 0 [some (.ref t0)] [] h := by rw [hs_C, mL50]; rfl
theorem b50_0 {t0 : Nat} (o_t0 : ok8 S R t0) : hs_R scr d 50 0 [some (.ref t0)] [] (S, I, L, R) = some (some (.int (Int64.toInt32 (L t0 10))), (S, I, L, R)) := Eq.trans (r_al_n d50_0 rfl) (Eq.trans (r_getL d50_1 f50_102 o_t0.2.1) (Eq.trans (r_l2i d50_4) (r_ri d50_5 rt50)))
theorem e51 {t0 : Nat} : hs_C scr d 51 [.ref t0] h = hs_R scr d 51 0 [some (.ref t0)] [] h := by rw [hs_C, mL51]; rfl
theorem b51_0 {t0 t0_0 : Nat} (o_t0 : ok7 S R t0) (e_t0_0 : R t0 0 = t0_0) (o_t0_0 : ok8 S R t0_0) : hs_R scr (d + 1) 51 0 [some (.ref t0)] [] (S, I, L, R) = (if (I t0 3) = 0 then ((hs_C scr d 48 [.ref t0_0, .int 1, .int 99] (S, (hs_u I t0 3 1), L, R)).bind fun o => hs_R scr (d + 1) 51 31 [some (.ref t0)] (o.1.toList ++ []) o.2) else ((hs_C scr d 47 [.ref t0_0, .int 5] (S, I, L, R)).bind fun o => hs_R scr (d + 1) 51 15 [some (.ref t0)] (o.1.toList ++ []) o.2)) := Eq.trans (r_al_n d51_0 rfl) (Eq.trans (r_getZ d51_1 f51_28 o_t0.2.1) (Eq.trans (r_zeq d51_4 rfl) (q_ite (Eq.trans (r_al_n d51_16 rfl) (Eq.trans (r_ic d51_17 kI_1) (Eq.trans ((r_putZ d51_18 f51_28 o_t0.2.1).trans (if_pos (Or.inr rfl))) (Eq.trans (r_al_n d51_21 rfl) (Eq.trans (r_getRe d51_22 f51_9 o_t0.2.1 e_t0_0 o_t0_0.1) (Eq.trans (r_ic d51_25 kI_1) (Eq.trans (r_bp d51_26 kB_99) (r_cvE (as := [.int 1, .int 99]) (r := []) d51_28 c51_78 ow48 o_t0_0.2.1 np48.symm rfl (hs_fitE mL48 (Nat.le_of_ble_eq_true rfl)))))))))) (Eq.trans (r_al_n d51_7 rfl) (Eq.trans (r_getRe d51_8 f51_9 o_t0.2.1 e_t0_0 o_t0_0.1) (Eq.trans (r_ic d51_11 kI_5) (r_cvE (as := [.int 5]) (r := []) d51_12 c51_74 ow47 o_t0_0.2.1 np47.symm rfl (hs_fitE mL47 (Nat.le_of_ble_eq_true rfl)))))))))
theorem b51_15 {t0 : Nat} {s0 : Int32}  : hs_R scr d 51 15 [some (.ref t0)] [.int s0] (S, I, L, R) = (if s0 = 0 ∨ s0 = 1 then some (some (.int s0), (S, I, L, R)) else none) := r_rz d51_15 rt51
theorem b51_31 {t0 t0_1 t0_0 : Nat} {s0 : Int32} (o_t0 : ok7 S R t0) (e_t0_1 : R t0 1 = t0_1) (o_t0_1 : ok4 S R t0_1) (e_t0_0 : R t0 0 = t0_0) (o_t0_0 : ok8 S R t0_0) : hs_R scr (d + 1) 51 31 [some (.ref t0)] [.int s0] (S, I, L, R) = (if s0 = 0 then some (some (.int 0), (S, I, L, R)) else ((hs_C scr d 50 [.ref t0_0] (S, I, L, R)).bind fun o => hs_R scr (d + 1) 51 47 [some (.ref t0)] (o.1.toList ++ [.ref t0_1]) o.2)) := Eq.trans (r_zne d51_31 rfl) (q_ite (Eq.trans (r_ic d51_34 kI_0) ((r_rz d51_35 rt51).trans (if_pos (Or.inl rfl)))) (Eq.trans (r_al_n d51_36 rfl) (Eq.trans (r_getRe d51_37 f51_15 o_t0.2.1 e_t0_1 o_t0_1.1) (Eq.trans (r_al_n d51_40 rfl) (Eq.trans (r_getRe d51_41 f51_9 o_t0.2.1 e_t0_0 o_t0_0.1) (r_cvE (as := []) (r := [.ref t0_1]) d51_44 c51_82 ow50 o_t0_0.2.1 np50.symm rfl (hs_fitE mL50 (Nat.le_of_ble_eq_true rfl))))))))
theorem b51_47 {t0 u0 t0_0 : Nat} {s1 : Int32} (o_u0 : ok4 S R u0) (o_t0 : ok7 S R t0) (e_t0_0 : R t0 0 = t0_0) (o_t0_0 : ok8 S R t0_0) : hs_R scr (d + 1) 51 47 [some (.ref t0)] [.int s1, .ref u0] (S, I, L, R) = ((hs_C scr d 49 [.ref t0_0, .int 33] (S, (hs_u I u0 14 s1), L, R)).bind fun o => hs_R scr (d + 1) 51 59 [some (.ref t0)] (o.1.toList ++ []) o.2) := Eq.trans (r_putI d51_47 f51_92 o_u0.2.1) (Eq.trans (r_al_n d51_50 rfl) (Eq.trans (r_getRe d51_51 f51_9 o_t0.2.1 e_t0_0 o_t0_0.1) (Eq.trans (r_bp d51_54 kB_33) (r_cvE (as := [.int 33]) (r := []) d51_56 c51_89 ow49 o_t0_0.2.1 np49.symm rfl (hs_fitE mL49 (Nat.le_of_ble_eq_true rfl))))))
theorem b51_59 {t0 : Nat} {s0 : Int32}  : hs_R scr d 51 59 [some (.ref t0)] [.int s0] (S, I, L, R) = (if s0 = 0 ∨ s0 = 1 then some (some (.int s0), (S, I, L, R)) else none) := r_rz d51_59 rt51
theorem e52 {t0 : Nat} : hs_C scr d 52 [.ref t0] h = hs_R scr d 52 0 [some (.ref t0), none, none, none, none] [] h := by rw [hs_C, mL52]; rfl
theorem b52_0 {t0 t0_1 t0_0 : Nat} (o_t0 : ok7 S R t0) (e_t0_1 : R t0 1 = t0_1) (o_t0_1 : ok4 S R t0_1) (e_t0_0 : R t0 0 = t0_0) (o_t0_0 : ok8 S R t0_0) : hs_R scr (d + 1) 52 0 [some (.ref t0), none, none, none, none] [] (S, I, L, R) = (if (I (t0_1 + 5) 4) < 8 then ((hs_C scr d 53 [.ref t0, .int 2, .int (I (t0_1 + 5) 4)] (S, I, L, R)).bind fun o => hs_R scr (d + 1) 52 36 [some (.ref t0), some (.ref (t0_1 + 5)), none, none, none] (o.1.toList ++ []) o.2) else ((hs_C scr d 47 [.ref t0_0, .int 6] (S, I, L, R)).bind fun o => hs_R scr (d + 1) 52 26 [some (.ref t0), some (.ref (t0_1 + 5)), none, none, none] (o.1.toList ++ []) o.2)) := Eq.trans (r_al_n d52_0 rfl) (Eq.trans (r_getRe d52_1 f52_15 o_t0.2.1 e_t0_1 o_t0_1.1) (Eq.trans (r_getRe d52_4 f52_113 o_t0_1.2.1 (o_t0_1.2.2.2.2.1) (Nat.le_trans o_t0_1.1 (Nat.le_add_right _ _))) (Eq.trans (r_as_n (loc' := [some (.ref t0), some (.ref (t0_1 + 5)), none, none, none]) d52_7 rfl) (Eq.trans (r_al_n d52_8 rfl) (Eq.trans (r_getI d52_9 f52_117 (o_t0_1.2.2.2.2.2.1).2.1) (Eq.trans (r_bp d52_12 kB_8) (Eq.trans (r_clt d52_14 rfl) (q_ite (Eq.trans (r_al_n d52_27 rfl) (Eq.trans (r_ic d52_28 kI_2) (Eq.trans (r_al_n d52_29 rfl) (Eq.trans (r_getI d52_30 f52_117 (o_t0_1.2.2.2.2.2.1).2.1) (r_cvE (as := [.int 2, .int (I (t0_1 + 5) 4)]) (r := []) d52_33 c52_122 ow53 o_t0.2.1 np53.symm rfl (hs_fitE mL53 (Nat.le_of_ble_eq_true rfl))))))) (Eq.trans (r_al_n d52_17 rfl) (Eq.trans (r_getRe d52_18 f52_9 o_t0.2.1 e_t0_0 o_t0_0.1) (Eq.trans (r_bp d52_21 kB_6) (r_cvE (as := [.int 6]) (r := []) d52_23 c52_74 ow47 o_t0_0.2.1 np47.symm rfl (hs_fitE mL47 (Nat.le_of_ble_eq_true rfl))))))))))))))
theorem b52_26 {t0 t1 : Nat} {s0 : Int32}  : hs_R scr d 52 26 [some (.ref t0), some (.ref t1), none, none, none] [.int s0] (S, I, L, R) = (if s0 = 0 ∨ s0 = 1 then some (some (.int s0), (S, I, L, R)) else none) := r_rz d52_26 rt52
theorem b52_36 {t0 t1 : Nat} {s0 : Int32} (o_t0 : ok7 S R t0) : hs_R scr (d + 1) 52 36 [some (.ref t0), some (.ref t1), none, none, none] [.int s0] (S, I, L, R) = (if s0 = 0 then hs_R scr (d + 1) 52 50 [some (.ref t0), some (.ref t1), none, none, none] [] (S, I, L, R) else ((hs_C scr d 56 [.ref t0, .int 3, .int 0, .int 99] (S, I, L, R)).bind fun o => hs_R scr (d + 1) 52 47 [some (.ref t0), some (.ref t1), none, none, none] (o.1.toList ++ []) o.2)) := Eq.trans (r_zeq d52_36 rfl) (q_ite (rfl) (Eq.trans (r_al_n d52_39 rfl) (Eq.trans (r_ic d52_40 kI_3) (Eq.trans (r_ic d52_41 kI_0) (Eq.trans (r_bp d52_42 kB_99) (r_cvE (as := [.int 3, .int 0, .int 99]) (r := []) d52_44 c52_125 ow56 o_t0.2.1 np56.symm rfl (hs_fitE mL56 (Nat.le_of_ble_eq_true rfl))))))))
theorem b52_47 {t0 t1 t0_0 : Nat} {s0 : Int32} (o_t0 : ok7 S R t0) (e_t0_0 : R t0 0 = t0_0) (o_t0_0 : ok8 S R t0_0) : hs_R scr (d + 1) 52 47 [some (.ref t0), some (.ref t1), none, none, none] [.int s0] (S, I, L, R) = (if s0 = 0 then hs_R scr (d + 1) 52 50 [some (.ref t0), some (.ref t1), none, none, none] [] (S, I, L, R) else ((hs_C scr d 50 [.ref t0_0] (S, I, L, R)).bind fun o => hs_R scr (d + 1) 52 59 [some (.ref t0), some (.ref t1), none, none, none] (o.1.toList ++ []) o.2)) := Eq.trans (r_zne d52_47 rfl) (q_ite (rfl) (Eq.trans (r_al_n d52_52 rfl) (Eq.trans (r_getRe d52_53 f52_9 o_t0.2.1 e_t0_0 o_t0_0.1) (r_cvE (as := []) (r := []) d52_56 c52_82 ow50 o_t0_0.2.1 np50.symm rfl (hs_fitE mL50 (Nat.le_of_ble_eq_true rfl))))))
theorem b52_50 {t0 t1 : Nat}  : hs_R scr d 52 50 [some (.ref t0), some (.ref t1), none, none, none] [] (S, I, L, R) = some (some (.int 0), (S, I, L, R)) := Eq.trans (r_ic d52_50 kI_0) ((r_rz d52_51 rt52).trans (if_pos (Or.inl rfl)))
theorem b52_59 {t0 t1 t0_0 : Nat} {s0 : Int32} (o_t0 : ok7 S R t0) (e_t0_0 : R t0 0 = t0_0) (o_t0_0 : ok8 S R t0_0) : hs_R scr (d + 1) 52 59 [some (.ref t0), some (.ref t1), none, none, none] [.int s0] (S, I, L, R) = ((hs_C scr d 44 [.ref t0_0] (S, I, L, R)).bind fun o => hs_R scr (d + 1) 52 69 [some (.ref t0), some (.ref t1), some (.int s0), some (.int 1), none] (o.1.toList ++ []) o.2) := Eq.trans (r_is_n (loc' := [some (.ref t0), some (.ref t1), some (.int s0), none, none]) d52_59 rfl) (Eq.trans (r_ic d52_60 kI_1) (Eq.trans (r_is_n (loc' := [some (.ref t0), some (.ref t1), some (.int s0), some (.int 1), none]) d52_61 rfl) (Eq.trans (r_al_n d52_62 rfl) (Eq.trans (r_getRe d52_63 f52_9 o_t0.2.1 e_t0_0 o_t0_0.1) (r_cvE (as := []) (r := []) d52_66 c52_31 ow44 o_t0_0.2.1 np44.symm rfl (hs_fitE mL44 (Nat.le_of_ble_eq_true rfl)))))))
theorem b52_69 {t0 t1 t0_0 : Nat} {x2 x3 : Int32} (o_t0 : ok7 S R t0) (e_t0_0 : R t0 0 = t0_0) (o_t0_0 : ok8 S R t0_0) : hs_R scr (d + 1) 52 69 [some (.ref t0), some (.ref t1), some (.int x2), some (.int x3), none] [] (S, I, L, R) = (if (I t0_0 8) = 4 then ((hs_C scr d 48 [.ref t0_0, .int 0, .int 9] (S, I, L, R)).bind fun o => hs_R scr (d + 1) 52 90 [some (.ref t0), some (.ref t1), some (.int x2), some (.int x3), none] (o.1.toList ++ []) o.2) else hs_R scr (d + 1) 52 110 [some (.ref t0), some (.ref t1), some (.int x2), some (.int x3), none] [] (S, I, L, R)) := Eq.trans (r_al_n d52_69 rfl) (Eq.trans (r_getRe d52_70 f52_9 o_t0.2.1 e_t0_0 o_t0_0.1) (Eq.trans (r_getI d52_73 f52_36 o_t0_0.2.1) (Eq.trans (r_ic d52_76 kI_4) (Eq.trans (r_cne d52_77 rfl) (q_ite (Eq.trans (r_al_n d52_80 rfl) (Eq.trans (r_getRe d52_81 f52_9 o_t0.2.1 e_t0_0 o_t0_0.1) (Eq.trans (r_ic d52_84 kI_0) (Eq.trans (r_bp d52_85 kB_9) (r_cvE (as := [.int 0, .int 9]) (r := []) d52_87 c52_78 ow48 o_t0_0.2.1 np48.symm rfl (hs_fitE mL48 (Nat.le_of_ble_eq_true rfl))))))) (rfl))))))
theorem b52_90 {t0 t1 t0_0 : Nat} {x2 x3 s0 : Int32} (o_t0 : ok7 S R t0) (e_t0_0 : R t0 0 = t0_0) (o_t0_0 : ok8 S R t0_0) : hs_R scr (d + 1) 52 90 [some (.ref t0), some (.ref t1), some (.int x2), some (.int x3), none] [.int s0] (S, I, L, R) = (if s0 = 0 then some (some (.int 0), (S, I, L, R)) else ((hs_C scr d 50 [.ref t0_0] (S, I, L, R)).bind fun o => hs_R scr (d + 1) 52 102 [some (.ref t0), some (.ref t1), some (.int x2), some (.int x3), none] (o.1.toList ++ []) o.2)) := Eq.trans (r_zne d52_90 rfl) (q_ite (Eq.trans (r_ic d52_93 kI_0) ((r_rz d52_94 rt52).trans (if_pos (Or.inl rfl)))) (Eq.trans (r_al_n d52_95 rfl) (Eq.trans (r_getRe d52_96 f52_9 o_t0.2.1 e_t0_0 o_t0_0.1) (r_cvE (as := []) (r := []) d52_99 c52_82 ow50 o_t0_0.2.1 np50.symm rfl (hs_fitE mL50 (Nat.le_of_ble_eq_true rfl))))))
theorem b52_102 {t0 t1 t0_0 : Nat} {x2 x3 s0 : Int32} (o_t0 : ok7 S R t0) (e_t0_0 : R t0 0 = t0_0) (o_t0_0 : ok8 S R t0_0) : hs_R scr (d + 1) 52 102 [some (.ref t0), some (.ref t1), some (.int x2), some (.int x3), none] [.int s0] (S, I, L, R) = ((hs_C scr d 44 [.ref t0_0] (S, I, L, R)).bind fun o => hs_R scr (d + 1) 52 110 [some (.ref t0), some (.ref t1), some (.int x2), some (.int s0), none] (o.1.toList ++ []) o.2) := Eq.trans (r_is_n (loc' := [some (.ref t0), some (.ref t1), some (.int x2), some (.int s0), none]) d52_102 rfl) (Eq.trans (r_al_n d52_103 rfl) (Eq.trans (r_getRe d52_104 f52_9 o_t0.2.1 e_t0_0 o_t0_0.1) (r_cvE (as := []) (r := []) d52_107 c52_31 ow44 o_t0_0.2.1 np44.symm rfl (hs_fitE mL44 (Nat.le_of_ble_eq_true rfl)))))
theorem b52_110 {t0 t1 t0_0 : Nat} {x2 x3 : Int32} (o_t0 : ok7 S R t0) (e_t0_0 : R t0 0 = t0_0) (o_t0_0 : ok8 S R t0_0) : hs_R scr d 52 110 [some (.ref t0), some (.ref t1), some (.int x2), some (.int x3), none] [] (S, I, L, R) = (if (I t0_0 8) = 5 then hs_R scr d 52 136 [some (.ref t0), some (.ref t1), some (.int x2), some (.int x3), some (.int 1)] [] (S, I, L, R) else (if (I t0_0 8) = 7 then hs_R scr d 52 136 [some (.ref t0), some (.ref t1), some (.int x2), some (.int x3), some (.int 1)] [] (S, I, L, R) else hs_R scr d 52 155 [some (.ref t0), some (.ref t1), some (.int x2), some (.int x3), some (.int 1)] [] (S, I, L, R))) := Eq.trans (r_ic d52_110 kI_1) (Eq.trans (r_is (loc' := [some (.ref t0), some (.ref t1), some (.int x2), some (.int x3), some (.int 1)]) d52_111 rfl) (Eq.trans (r_al_n d52_113 rfl) (Eq.trans (r_getRe d52_114 f52_9 o_t0.2.1 e_t0_0 o_t0_0.1) (Eq.trans (r_getI d52_117 f52_36 o_t0_0.2.1) (Eq.trans (r_ic d52_120 kI_5) (Eq.trans (r_ceq d52_121 rfl) (q_ite (rfl) (Eq.trans (r_al_n d52_124 rfl) (Eq.trans (r_getRe d52_125 f52_9 o_t0.2.1 e_t0_0 o_t0_0.1) (Eq.trans (r_getI d52_128 f52_36 o_t0_0.2.1) (Eq.trans (r_bp d52_131 kB_7) (Eq.trans (r_cne d52_133 rfl) (q_ite (rfl) (rfl))))))))))))))
theorem b52_136 {t0 t1 t0_0 : Nat} {x2 x3 x4 : Int32} (o_t0 : ok7 S R t0) (e_t0_0 : R t0 0 = t0_0) (o_t0_0 : ok8 S R t0_0) : hs_R scr (d + 1) 52 136 [some (.ref t0), some (.ref t1), some (.int x2), some (.int x3), some (.int x4)] [] (S, I, L, R) = ((hs_C scr d 57 [.int (I t0_0 8)] (S, I, L, R)).bind fun o => hs_R scr (d + 1) 52 146 [some (.ref t0), some (.ref t1), some (.int x2), some (.int x3), some (.int x4)] (o.1.toList ++ []) o.2) := Eq.trans (r_al_n d52_136 rfl) (Eq.trans (r_getRe d52_137 f52_9 o_t0.2.1 e_t0_0 o_t0_0.1) (Eq.trans (r_getI d52_140 f52_36 o_t0_0.2.1) (r_cs (as := [.int (I t0_0 8)]) (r := []) d52_143 c52_129 np57.symm rfl (hs_fitE mL57 (Nat.le_of_ble_eq_true rfl)))))
theorem b52_146 {t0 t1 t0_0 : Nat} {x2 x3 x4 s0 : Int32} (o_t0 : ok7 S R t0) (e_t0_0 : R t0 0 = t0_0) (o_t0_0 : ok8 S R t0_0) : hs_R scr (d + 1) 52 146 [some (.ref t0), some (.ref t1), some (.int x2), some (.int x3), some (.int x4)] [.int s0] (S, I, L, R) = ((hs_C scr d 44 [.ref t0_0] (S, I, L, R)).bind fun o => hs_R scr (d + 1) 52 155 [some (.ref t0), some (.ref t1), some (.int x2), some (.int x3), some (.int s0)] (o.1.toList ++ []) o.2) := Eq.trans (r_is (loc' := [some (.ref t0), some (.ref t1), some (.int x2), some (.int x3), some (.int s0)]) d52_146 rfl) (Eq.trans (r_al_n d52_148 rfl) (Eq.trans (r_getRe d52_149 f52_9 o_t0.2.1 e_t0_0 o_t0_0.1) (r_cvE (as := []) (r := []) d52_152 c52_31 ow44 o_t0_0.2.1 np44.symm rfl (hs_fitE mL44 (Nat.le_of_ble_eq_true rfl)))))
theorem b52_155 {t0 t1 : Nat} {x2 x3 x4 : Int32} (o_t1 : ok1 S R t1) : hs_R scr (d + 1) 52 155 [some (.ref t0), some (.ref t1), some (.int x2), some (.int x3), some (.int x4)] [] (S, I, L, R) = ((hs_C scr d 58 [.ref t1, .int x2, .int x3, .int x4] (S, I, L, R)).bind fun o => hs_R scr (d + 1) 52 163 [some (.ref t0), some (.ref t1), some (.int x2), some (.int x3), some (.int x4)] (o.1.toList ++ []) o.2) := Eq.trans (r_al_n d52_155 rfl) (Eq.trans (r_il_n d52_156 rfl) (Eq.trans (r_il_n d52_157 rfl) (Eq.trans (r_il d52_158 rfl) (r_cvE (as := [.int x2, .int x3, .int x4]) (r := []) d52_160 c52_133 ow58 o_t1.2.1 np58.symm rfl (hs_fitE mL58 (Nat.le_of_ble_eq_true rfl))))))
theorem b52_163 {t0 t1 t0_0 : Nat} {x2 x3 x4 : Int32} (o_t0 : ok7 S R t0) (e_t0_0 : R t0 0 = t0_0) (o_t0_0 : ok8 S R t0_0) : hs_R scr (d + 1) 52 163 [some (.ref t0), some (.ref t1), some (.int x2), some (.int x3), some (.int x4)] [] (S, I, L, R) = (if (I t0_0 8) = 33 then hs_R scr (d + 1) 52 186 [some (.ref t0), some (.ref t1), some (.int x2), some (.int x3), some (.int x4)] [] (S, I, L, R) else ((hs_C scr d 47 [.ref t0_0, .int 2] (S, I, L, R)).bind fun o => hs_R scr (d + 1) 52 183 [some (.ref t0), some (.ref t1), some (.int x2), some (.int x3), some (.int x4)] (o.1.toList ++ []) o.2)) := Eq.trans (r_al_n d52_163 rfl) (Eq.trans (r_getRe d52_164 f52_9 o_t0.2.1 e_t0_0 o_t0_0.1) (Eq.trans (r_getI d52_167 f52_36 o_t0_0.2.1) (Eq.trans (r_bp d52_170 kB_33) (Eq.trans (r_ceq d52_172 rfl) (q_ite (rfl) (Eq.trans (r_al_n d52_175 rfl) (Eq.trans (r_getRe d52_176 f52_9 o_t0.2.1 e_t0_0 o_t0_0.1) (Eq.trans (r_ic d52_179 kI_2) (r_cvE (as := [.int 2]) (r := []) d52_180 c52_74 ow47 o_t0_0.2.1 np47.symm rfl (hs_fitE mL47 (Nat.le_of_ble_eq_true rfl)))))))))))
theorem b52_183 {t0 t1 : Nat} {x2 x3 x4 s0 : Int32}  : hs_R scr d 52 183 [some (.ref t0), some (.ref t1), some (.int x2), some (.int x3), some (.int x4)] [.int s0] (S, I, L, R) = (if s0 = 0 then hs_R scr d 52 191 [some (.ref t0), some (.ref t1), some (.int x2), some (.int x3), some (.int x4)] [.int 0] (S, I, L, R) else hs_R scr d 52 186 [some (.ref t0), some (.ref t1), some (.int x2), some (.int x3), some (.int x4)] [] (S, I, L, R)) := Eq.trans (r_zeq d52_183 rfl) (q_ite (Eq.trans (r_ic d52_190 kI_0) (rfl)) (rfl))
theorem b52_186 {t0 t1 : Nat} {x2 x3 x4 : Int32}  : hs_R scr d 52 186 [some (.ref t0), some (.ref t1), some (.int x2), some (.int x3), some (.int x4)] [] (S, I, L, R) = hs_R scr d 52 191 [some (.ref t0), some (.ref t1), some (.int x2), some (.int x3), some (.int x4)] [.int 1] (S, I, L, R) := Eq.trans (r_ic d52_186 kI_1) (Eq.trans (r_goto d52_187 rfl) (rfl))
theorem b52_191 {t0 t1 : Nat} {x2 x3 x4 s0 : Int32}  : hs_R scr d 52 191 [some (.ref t0), some (.ref t1), some (.int x2), some (.int x3), some (.int x4)] [.int s0] (S, I, L, R) = (if s0 = 0 ∨ s0 = 1 then some (some (.int s0), (S, I, L, R)) else none) := r_rz d52_191 rt52
theorem e53 {t0 : Nat} {x1 : Int32} {x2 : Int32} : hs_C scr d 53 [.ref t0, .int x1, .int x2] h = hs_R scr d 53 0 [some (.ref t0), some (.int x1), some (.int x2)] [] h := by rw [hs_C, mL53]; rfl
theorem b53_0 {t0 t0_0 : Nat} {x1 x2 : Int32} (o_t0 : ok7 S R t0) (e_t0_0 : R t0 0 = t0_0) (o_t0_0 : ok8 S R t0_0) : hs_R scr (d + 1) 53 0 [some (.ref t0), some (.int x1), some (.int x2)] [] (S, I, L, R) = ((hs_C scr d 49 [.ref t0_0, .int 30] (S, I, L, R)).bind fun o => hs_R scr (d + 1) 53 9 [some (.ref t0), some (.int x1), some (.int x2)] (o.1.toList ++ []) o.2) := Eq.trans (r_al_n d53_0 rfl) (Eq.trans (r_getRe d53_1 f53_9 o_t0.2.1 e_t0_0 o_t0_0.1) (Eq.trans (r_bp d53_4 kB_30) (r_cvE (as := [.int 30]) (r := []) d53_6 c53_89 ow49 o_t0_0.2.1 np49.symm rfl (hs_fitE mL49 (Nat.le_of_ble_eq_true rfl)))))
theorem b53_9 {t0 t0_1 t0_0 : Nat} {x1 x2 s0 : Int32} (o_t0 : ok7 S R t0) (e_t0_1 : R t0 1 = t0_1) (o_t0_1 : ok4 S R t0_1) (e_t0_0 : R t0 0 = t0_0) (o_t0_0 : ok8 S R t0_0) : hs_R scr (d + 1) 53 9 [some (.ref t0), some (.int x1), some (.int x2)] [.int s0] (S, I, L, R) = (if s0 = 0 then some (some (.int 0), (S, I, L, R)) else ((hs_C scr d 54 [.ref (t0_1 + 1), .long (L t0_0 10)] (S, I, L, R)).bind fun o => hs_R scr (d + 1) 53 31 [some (.ref t0), some (.int x1), some (.int x2)] (o.1.toList ++ []) o.2)) := Eq.trans (r_zne d53_9 rfl) (q_ite (Eq.trans (r_ic d53_12 kI_0) ((r_rz d53_13 rt53).trans (if_pos (Or.inl rfl)))) (Eq.trans (r_al_n d53_14 rfl) (Eq.trans (r_getRe d53_15 f53_15 o_t0.2.1 e_t0_1 o_t0_1.1) (Eq.trans (r_getRe d53_18 f53_95 o_t0_1.2.1 (o_t0_1.2.2.1) (Nat.le_trans o_t0_1.1 (Nat.le_add_right _ _))) (Eq.trans (r_al_n d53_21 rfl) (Eq.trans (r_getRe d53_22 f53_9 o_t0.2.1 e_t0_0 o_t0_0.1) (Eq.trans (r_getL d53_25 f53_99 o_t0_0.2.1) (r_cvE (as := [.long (L t0_0 10)]) (r := []) d53_28 c53_103 ow54 (o_t0_1.2.2.2.1).2.1 np54.symm rfl (hs_fitE mL54 (Nat.le_of_ble_eq_true rfl))))))))))
theorem b53_31 {t0 t0_1 t0_0 : Nat} {x1 x2 s0 : Int32} (o_t0 : ok7 S R t0) (e_t0_1 : R t0 1 = t0_1) (o_t0_1 : ok4 S R t0_1) (e_t0_0 : R t0 0 = t0_0) (o_t0_0 : ok8 S R t0_0) : hs_R scr (d + 1) 53 31 [some (.ref t0), some (.int x1), some (.int x2)] [.int s0] (S, I, L, R) = (if s0 = 0 then ((hs_C scr d 55 [.ref (t0_1 + 1), .long (L t0_0 10), .int x1, .int x2] (S, I, L, R)).bind fun o => hs_R scr (d + 1) 53 62 [some (.ref t0), some (.int x1), some (.int x2)] (o.1.toList ++ []) o.2) else ((hs_C scr d 47 [.ref t0_0, .int 3] (S, I, L, R)).bind fun o => hs_R scr (d + 1) 53 42 [some (.ref t0), some (.int x1), some (.int x2)] (o.1.toList ++ []) o.2)) := Eq.trans (r_zeq d53_31 rfl) (q_ite (Eq.trans (r_al_n d53_43 rfl) (Eq.trans (r_getRe d53_44 f53_15 o_t0.2.1 e_t0_1 o_t0_1.1) (Eq.trans (r_getRe d53_47 f53_95 o_t0_1.2.1 (o_t0_1.2.2.1) (Nat.le_trans o_t0_1.1 (Nat.le_add_right _ _))) (Eq.trans (r_al_n d53_50 rfl) (Eq.trans (r_getRe d53_51 f53_9 o_t0.2.1 e_t0_0 o_t0_0.1) (Eq.trans (r_getL d53_54 f53_99 o_t0_0.2.1) (Eq.trans (r_il_n d53_57 rfl) (Eq.trans (r_il_n d53_58 rfl) (r_cvE (as := [.long (L t0_0 10), .int x1, .int x2]) (r := []) d53_59 c53_109 ow55 (o_t0_1.2.2.2.1).2.1 np55.symm rfl (hs_fitE mL55 (Nat.le_of_ble_eq_true rfl))))))))))) (Eq.trans (r_al_n d53_34 rfl) (Eq.trans (r_getRe d53_35 f53_9 o_t0.2.1 e_t0_0 o_t0_0.1) (Eq.trans (r_ic d53_38 kI_3) (r_cvE (as := [.int 3]) (r := []) d53_39 c53_74 ow47 o_t0_0.2.1 np47.symm rfl (hs_fitE mL47 (Nat.le_of_ble_eq_true rfl)))))))
theorem b53_42 {t0 : Nat} {x1 x2 s0 : Int32}  : hs_R scr d 53 42 [some (.ref t0), some (.int x1), some (.int x2)] [.int s0] (S, I, L, R) = (if s0 = 0 ∨ s0 = 1 then some (some (.int s0), (S, I, L, R)) else none) := r_rz d53_42 rt53
theorem b53_62 {t0 : Nat} {x1 x2 : Int32}  : hs_R scr d 53 62 [some (.ref t0), some (.int x1), some (.int x2)] [] (S, I, L, R) = some (some (.int 1), (S, I, L, R)) := Eq.trans (r_ic d53_62 kI_1) ((r_rz d53_63 rt53).trans (if_pos (Or.inr rfl)))
theorem e54 {t0 : Nat} {y1 : Int64} : hs_C scr d 54 [.ref t0, .long y1] h = hs_R scr d 54 0 [some (.ref t0), some (.long y1), none, none] [] h := by rw [hs_C, mL54]; rfl
theorem b54_0 {t0 : Nat} {y1 : Int64}  : hs_R scr d 54 0 [some (.ref t0), some (.long y1), none, none] [] (S, I, L, R) = hs_R scr d 54 2 [some (.ref t0), some (.long y1), none, some (.int 0)] [] (S, I, L, R) := Eq.trans (r_ic d54_0 kI_0) (Eq.trans (r_is_n (loc' := [some (.ref t0), some (.long y1), none, some (.int 0)]) d54_1 rfl) (rfl))
theorem b54_2 {t0 : Nat} {y1 : Int64} {x3 : Int32} (o_t0 : ok3 S R t0) : hs_R scr d 54 2 [some (.ref t0), some (.long y1), none, some (.int x3)] [] (S, I, L, R) = (if (I t0 3) ≤ x3 then some (some (.int 0), (S, I, L, R)) else (if hs_ib x3 31 = true then (if (lg_cmp (L (t0 + 1) (Int32.toNatClampNeg x3)) y1) = 0 then some (some (.int 1), (S, I, L, R)) else hs_R scr d 54 2 [some (.ref t0), some (.long y1), none, some (.int (x3 + 1))] [] (S, I, L, R)) else none)) := Eq.trans (r_il_n d54_2 rfl) (Eq.trans (r_al_n d54_3 rfl) (Eq.trans (r_getI d54_4 f54_22 o_t0.2.1) (Eq.trans (r_cge d54_7 rfl) (q_ite (Eq.trans (r_ic d54_29 kI_0) ((r_rz d54_30 rt54).trans (if_pos (Or.inl rfl)))) (Eq.trans (r_al_n d54_10 rfl) (Eq.trans (r_getRe d54_11 f54_9 o_t0.2.1 (o_t0.2.2.1) (Nat.le_trans o_t0.1 (Nat.le_add_right _ _))) (Eq.trans (r_il_n d54_14 rfl) (Eq.trans (r_lald d54_15 (o_t0.2.2.2.1)) (q_ite (Eq.trans (r_ll_n d54_16 rfl) (Eq.trans (r_lcmp d54_17) (Eq.trans (r_zne d54_18 rfl) (q_ite (Eq.trans (r_ic d54_21 kI_1) ((r_rz d54_22 rt54).trans (if_pos (Or.inr rfl)))) (Eq.trans (r_inc (loc' := [some (.ref t0), some (.long y1), none, some (.int (x3 + 1))]) d54_23 kI_1 rfl rfl) (Eq.trans (r_goto d54_26 rfl) (rfl))))))) rfl)))))))))
theorem e55 {t0 : Nat} {y1 : Int64} {x3 : Int32} {x4 : Int32} : hs_C scr d 55 [.ref t0, .long y1, .int x3, .int x4] h = hs_R scr d 55 0 [some (.ref t0), some (.long y1), none, some (.int x3), some (.int x4)] [] h := by rw [hs_C, mL55]; rfl
theorem b55_0 {t0 : Nat} {y1 : Int64} {x3 x4 : Int32} (o_t0 : ok3 S R t0) : hs_R scr d 55 0 [some (.ref t0), some (.long y1), none, some (.int x3), some (.int x4)] [] (S, I, L, R) = (if (31 : Int32) ≤ (I t0 3) then hs_R scr d 55 50 [some (.ref t0), some (.long y1), none, some (.int x3), some (.int x4)] [] (S, I, L, R) else (if hs_ib (I t0 3) 31 = true then (if hs_ib (I t0 3) 31 = true then (if hs_ib ((hs_u I (t0 + 2) (Int32.toNatClampNeg (I t0 3)) x3) t0 3) 31 = true then hs_R scr d 55 50 [some (.ref t0), some (.long y1), none, some (.int x3), some (.int x4)] [] (S, (hs_u (hs_u (hs_u I (t0 + 2) (Int32.toNatClampNeg (I t0 3)) x3) (t0 + 3) (Int32.toNatClampNeg ((hs_u I (t0 + 2) (Int32.toNatClampNeg (I t0 3)) x3) t0 3)) x4) t0 3 (((hs_u (hs_u I (t0 + 2) (Int32.toNatClampNeg (I t0 3)) x3) (t0 + 3) (Int32.toNatClampNeg ((hs_u I (t0 + 2) (Int32.toNatClampNeg (I t0 3)) x3) t0 3)) x4) t0 3) + 1)), (hs_u L (t0 + 1) (Int32.toNatClampNeg (I t0 3)) y1), R) else none) else none) else none)) := Eq.trans (r_al_n d55_0 rfl) (Eq.trans (r_getI d55_1 f55_22 o_t0.2.1) (Eq.trans (r_bp d55_4 kB_31) (Eq.trans (r_cge d55_6 rfl) (q_ite (rfl) (Eq.trans (r_al_n d55_9 rfl) (Eq.trans (r_getRe d55_10 f55_9 o_t0.2.1 (o_t0.2.2.1) (Nat.le_trans o_t0.1 (Nat.le_add_right _ _))) (Eq.trans (r_al_n d55_13 rfl) (Eq.trans (r_getI d55_14 f55_22 o_t0.2.1) (Eq.trans (r_ll_n d55_17 rfl) (Eq.trans (r_last d55_18 (o_t0.2.2.2.1)) (q_ite (Eq.trans (r_al_n d55_19 rfl) (Eq.trans (r_getRe d55_20 f55_15 o_t0.2.1 (o_t0.2.2.2.2.1) (Nat.le_trans o_t0.1 (Nat.le_add_right _ _))) (Eq.trans (r_al_n d55_23 rfl) (Eq.trans (r_getI d55_24 f55_22 o_t0.2.1) (Eq.trans (r_il_n d55_27 rfl) (Eq.trans (r_iast d55_28 (o_t0.2.2.2.2.2.1)) (q_ite (Eq.trans (r_al_n d55_29 rfl) (Eq.trans (r_getRe d55_30 f55_19 o_t0.2.1 (o_t0.2.2.2.2.2.2.1) (Nat.le_trans o_t0.1 (Nat.le_add_right _ _))) (Eq.trans (r_al_n d55_33 rfl) (Eq.trans (r_getI d55_34 f55_22 o_t0.2.1) (Eq.trans (r_il d55_37 rfl) (Eq.trans (r_iast d55_39 (o_t0.2.2.2.2.2.2.2)) (q_ite (Eq.trans (r_al_n d55_40 rfl) (Eq.trans (r_dup d55_41 rfl) (Eq.trans (r_getI d55_42 f55_22 o_t0.2.1) (Eq.trans (r_ic d55_45 kI_1) (Eq.trans (r_iadd d55_46) (Eq.trans (r_putI d55_47 f55_22 o_t0.2.1) (rfl))))))) rfl))))))) rfl))))))) rfl)))))))))))
theorem b55_50 {t0 : Nat} {y1 : Int64} {x3 x4 : Int32}  : hs_R scr d 55 50 [some (.ref t0), some (.long y1), none, some (.int x3), some (.int x4)] [] (S, I, L, R) = some (none, (S, I, L, R)) := r_rv d55_50 rt55
theorem e56 {t0 : Nat} {x1 : Int32} {x2 : Int32} {x3 : Int32} : hs_C scr d 56 [.ref t0, .int x1, .int x2, .int x3] h = hs_R scr d 56 0 [some (.ref t0), some (.int x1), some (.int x2), some (.int x3)] [] h := by rw [hs_C, mL56]; rfl
theorem b56_0 {t0 t0_0 : Nat} {x1 x2 x3 : Int32} (o_t0 : ok7 S R t0) (e_t0_0 : R t0 0 = t0_0) (o_t0_0 : ok8 S R t0_0) : hs_R scr (d + 1) 56 0 [some (.ref t0), some (.int x1), some (.int x2), some (.int x3)] [] (S, I, L, R) = ((hs_C scr d 49 [.ref t0_0, .int x1] (S, I, L, R)).bind fun o => hs_R scr (d + 1) 56 8 [some (.ref t0), some (.int x1), some (.int x2), some (.int x3)] (o.1.toList ++ []) o.2) := Eq.trans (r_al_n d56_0 rfl) (Eq.trans (r_getRe d56_1 f56_9 o_t0.2.1 e_t0_0 o_t0_0.1) (Eq.trans (r_il_n d56_4 rfl) (r_cvE (as := [.int x1]) (r := []) d56_5 c56_89 ow49 o_t0_0.2.1 np49.symm rfl (hs_fitE mL49 (Nat.le_of_ble_eq_true rfl)))))
theorem b56_8 {t0 t0_0 : Nat} {x1 x2 x3 s0 : Int32} (o_t0 : ok7 S R t0) (e_t0_0 : R t0 0 = t0_0) (o_t0_0 : ok8 S R t0_0) : hs_R scr (d + 1) 56 8 [some (.ref t0), some (.int x1), some (.int x2), some (.int x3)] [.int s0] (S, I, L, R) = (if s0 = 0 then hs_R scr (d + 1) 56 27 [some (.ref t0), some (.int x1), some (.int x2), some (.int x3)] [] (S, I, L, R) else ((hs_C scr d 48 [.ref t0_0, .int x2, .int x3] (S, I, L, R)).bind fun o => hs_R scr (d + 1) 56 20 [some (.ref t0), some (.int x1), some (.int x2), some (.int x3)] (o.1.toList ++ []) o.2)) := Eq.trans (r_zeq d56_8 rfl) (q_ite (rfl) (Eq.trans (r_al_n d56_11 rfl) (Eq.trans (r_getRe d56_12 f56_9 o_t0.2.1 e_t0_0 o_t0_0.1) (Eq.trans (r_il_n d56_15 rfl) (Eq.trans (r_il_n d56_16 rfl) (r_cvE (as := [.int x2, .int x3]) (r := []) d56_17 c56_78 ow48 o_t0_0.2.1 np48.symm rfl (hs_fitE mL48 (Nat.le_of_ble_eq_true rfl))))))))
theorem b56_20 {t0 : Nat} {x1 x2 x3 s0 : Int32}  : hs_R scr d 56 20 [some (.ref t0), some (.int x1), some (.int x2), some (.int x3)] [.int s0] (S, I, L, R) = (if s0 = 0 then hs_R scr d 56 27 [some (.ref t0), some (.int x1), some (.int x2), some (.int x3)] [] (S, I, L, R) else hs_R scr d 56 28 [some (.ref t0), some (.int x1), some (.int x2), some (.int x3)] [.int 1] (S, I, L, R)) := Eq.trans (r_zeq d56_20 rfl) (q_ite (rfl) (Eq.trans (r_ic d56_23 kI_1) (Eq.trans (r_goto d56_24 rfl) (rfl))))
theorem b56_27 {t0 : Nat} {x1 x2 x3 : Int32}  : hs_R scr d 56 27 [some (.ref t0), some (.int x1), some (.int x2), some (.int x3)] [] (S, I, L, R) = hs_R scr d 56 28 [some (.ref t0), some (.int x1), some (.int x2), some (.int x3)] [.int 0] (S, I, L, R) := Eq.trans (r_ic d56_27 kI_0) (rfl)
theorem b56_28 {t0 : Nat} {x1 x2 x3 s0 : Int32}  : hs_R scr d 56 28 [some (.ref t0), some (.int x1), some (.int x2), some (.int x3)] [.int s0] (S, I, L, R) = (if s0 = 0 ∨ s0 = 1 then some (some (.int s0), (S, I, L, R)) else none) := r_rz d56_28 rt56
theorem e57 {x0 : Int32} : hs_C scr d 57 [.int x0] h = hs_R scr d 57 0 [some (.int x0)] [] h := by rw [hs_C, mL57]; rfl
theorem b57_0 {x0 : Int32}  : hs_R scr d 57 0 [some (.int x0)] [] (S, I, L, R) = hs_R scr d 57 (hs_swt x0 5 8 [32, 34, 36, 38] 40) [some (.int x0)] [] (S, I, L, R) := Eq.trans (r_il_n d57_0 rfl) (r_tsw d57_1 rfl rfl rfl)
theorem b57_32 {x0 : Int32}  : hs_R scr d 57 32 [some (.int x0)] [] (S, I, L, R) = some (some (.int 2), (S, I, L, R)) := Eq.trans (r_ic d57_32 kI_2) (r_ri d57_33 rt57)
theorem b57_34 {x0 : Int32}  : hs_R scr d 57 34 [some (.int x0)] [] (S, I, L, R) = some (some (.int 1), (S, I, L, R)) := Eq.trans (r_ic d57_34 kI_1) (r_ri d57_35 rt57)
theorem b57_36 {x0 : Int32}  : hs_R scr d 57 36 [some (.int x0)] [] (S, I, L, R) = some (some (.int 0), (S, I, L, R)) := Eq.trans (r_ic d57_36 kI_0) (r_ri d57_37 rt57)
theorem b57_38 {x0 : Int32}  : hs_R scr d 57 38 [some (.int x0)] [] (S, I, L, R) = some (some (.int 3), (S, I, L, R)) := Eq.trans (r_ic d57_38 kI_3) (r_ri d57_39 rt57)
theorem b57_40 {x0 : Int32}  : hs_R scr d 57 40 [some (.int x0)] [] (S, I, L, R) = some (some (.int (-1)), (S, I, L, R)) := Eq.trans (r_ic d57_40 kI_m1) (r_ri d57_41 rt57)
theorem e58 {t0 : Nat} {x1 : Int32} {x2 : Int32} {x3 : Int32} : hs_C scr d 58 [.ref t0, .int x1, .int x2, .int x3] h = hs_R scr d 58 0 [some (.ref t0), some (.int x1), some (.int x2), some (.int x3)] [] h := by rw [hs_C, mL58]; rfl
theorem b58_0 {t0 : Nat} {x1 x2 x3 : Int32} (o_t0 : ok1 S R t0) : hs_R scr d 58 0 [some (.ref t0), some (.int x1), some (.int x2), some (.int x3)] [] (S, I, L, R) = (if (8 : Int32) ≤ (I t0 4) then hs_R scr d 58 59 [some (.ref t0), some (.int x1), some (.int x2), some (.int x3)] [] (S, I, L, R) else (if hs_ib (I t0 4) 8 = true then (if hs_ib ((hs_u I (t0 + 1) (Int32.toNatClampNeg (I t0 4)) x1) t0 4) 8 = true then (if hs_ib ((hs_u (hs_u I (t0 + 1) (Int32.toNatClampNeg (I t0 4)) x1) (t0 + 2) (Int32.toNatClampNeg ((hs_u I (t0 + 1) (Int32.toNatClampNeg (I t0 4)) x1) t0 4)) x2) t0 4) 8 = true then (if hs_ib ((hs_u (hs_u (hs_u I (t0 + 1) (Int32.toNatClampNeg (I t0 4)) x1) (t0 + 2) (Int32.toNatClampNeg ((hs_u I (t0 + 1) (Int32.toNatClampNeg (I t0 4)) x1) t0 4)) x2) (t0 + 3) (Int32.toNatClampNeg ((hs_u (hs_u I (t0 + 1) (Int32.toNatClampNeg (I t0 4)) x1) (t0 + 2) (Int32.toNatClampNeg ((hs_u I (t0 + 1) (Int32.toNatClampNeg (I t0 4)) x1) t0 4)) x2) t0 4)) x3) t0 4) 8 = true then hs_R scr d 58 59 [some (.ref t0), some (.int x1), some (.int x2), some (.int x3)] [] (S, (hs_u (hs_u (hs_u (hs_u (hs_u I (t0 + 1) (Int32.toNatClampNeg (I t0 4)) x1) (t0 + 2) (Int32.toNatClampNeg ((hs_u I (t0 + 1) (Int32.toNatClampNeg (I t0 4)) x1) t0 4)) x2) (t0 + 3) (Int32.toNatClampNeg ((hs_u (hs_u I (t0 + 1) (Int32.toNatClampNeg (I t0 4)) x1) (t0 + 2) (Int32.toNatClampNeg ((hs_u I (t0 + 1) (Int32.toNatClampNeg (I t0 4)) x1) t0 4)) x2) t0 4)) x3) (t0 + 4) (Int32.toNatClampNeg ((hs_u (hs_u (hs_u I (t0 + 1) (Int32.toNatClampNeg (I t0 4)) x1) (t0 + 2) (Int32.toNatClampNeg ((hs_u I (t0 + 1) (Int32.toNatClampNeg (I t0 4)) x1) t0 4)) x2) (t0 + 3) (Int32.toNatClampNeg ((hs_u (hs_u I (t0 + 1) (Int32.toNatClampNeg (I t0 4)) x1) (t0 + 2) (Int32.toNatClampNeg ((hs_u I (t0 + 1) (Int32.toNatClampNeg (I t0 4)) x1) t0 4)) x2) t0 4)) x3) t0 4)) 0) t0 4 (((hs_u (hs_u (hs_u (hs_u I (t0 + 1) (Int32.toNatClampNeg (I t0 4)) x1) (t0 + 2) (Int32.toNatClampNeg ((hs_u I (t0 + 1) (Int32.toNatClampNeg (I t0 4)) x1) t0 4)) x2) (t0 + 3) (Int32.toNatClampNeg ((hs_u (hs_u I (t0 + 1) (Int32.toNatClampNeg (I t0 4)) x1) (t0 + 2) (Int32.toNatClampNeg ((hs_u I (t0 + 1) (Int32.toNatClampNeg (I t0 4)) x1) t0 4)) x2) t0 4)) x3) (t0 + 4) (Int32.toNatClampNeg ((hs_u (hs_u (hs_u I (t0 + 1) (Int32.toNatClampNeg (I t0 4)) x1) (t0 + 2) (Int32.toNatClampNeg ((hs_u I (t0 + 1) (Int32.toNatClampNeg (I t0 4)) x1) t0 4)) x2) (t0 + 3) (Int32.toNatClampNeg ((hs_u (hs_u I (t0 + 1) (Int32.toNatClampNeg (I t0 4)) x1) (t0 + 2) (Int32.toNatClampNeg ((hs_u I (t0 + 1) (Int32.toNatClampNeg (I t0 4)) x1) t0 4)) x2) t0 4)) x3) t0 4)) 0) t0 4) + 1)), L, R) else none) else none) else none) else none)) := Eq.trans (r_al_n d58_0 rfl) (Eq.trans (r_getI d58_1 f58_24 o_t0.2.1) (Eq.trans (r_bp d58_4 kB_8) (Eq.trans (r_cge d58_6 rfl) (q_ite (rfl) (Eq.trans (r_al_n d58_9 rfl) (Eq.trans (r_getRe d58_10 f58_9 o_t0.2.1 (o_t0.2.2.1) (Nat.le_trans o_t0.1 (Nat.le_add_right _ _))) (Eq.trans (r_al_n d58_13 rfl) (Eq.trans (r_getI d58_14 f58_24 o_t0.2.1) (Eq.trans (r_il_n d58_17 rfl) (Eq.trans (r_iast d58_18 (o_t0.2.2.2.1)) (q_ite (Eq.trans (r_al_n d58_19 rfl) (Eq.trans (r_getRe d58_20 f58_15 o_t0.2.1 (o_t0.2.2.2.2.1) (Nat.le_trans o_t0.1 (Nat.le_add_right _ _))) (Eq.trans (r_al_n d58_23 rfl) (Eq.trans (r_getI d58_24 f58_24 o_t0.2.1) (Eq.trans (r_il_n d58_27 rfl) (Eq.trans (r_iast d58_28 (o_t0.2.2.2.2.2.1)) (q_ite (Eq.trans (r_al_n d58_29 rfl) (Eq.trans (r_getRe d58_30 f58_18 o_t0.2.1 (o_t0.2.2.2.2.2.2.1) (Nat.le_trans o_t0.1 (Nat.le_add_right _ _))) (Eq.trans (r_al_n d58_33 rfl) (Eq.trans (r_getI d58_34 f58_24 o_t0.2.1) (Eq.trans (r_il_n d58_37 rfl) (Eq.trans (r_iast d58_38 (o_t0.2.2.2.2.2.2.2.1)) (q_ite (Eq.trans (r_al_n d58_39 rfl) (Eq.trans (r_getRe d58_40 f58_21 o_t0.2.1 (o_t0.2.2.2.2.2.2.2.2.1) (Nat.le_trans o_t0.1 (Nat.le_add_right _ _))) (Eq.trans (r_al_n d58_43 rfl) (Eq.trans (r_getI d58_44 f58_24 o_t0.2.1) (Eq.trans (r_ic d58_47 kI_0) (Eq.trans (r_iast d58_48 (o_t0.2.2.2.2.2.2.2.2.2)) (q_ite (Eq.trans (r_al_n d58_49 rfl) (Eq.trans (r_dup d58_50 rfl) (Eq.trans (r_getI d58_51 f58_24 o_t0.2.1) (Eq.trans (r_ic d58_54 kI_1) (Eq.trans (r_iadd d58_55) (Eq.trans (r_putI d58_56 f58_24 o_t0.2.1) (rfl))))))) rfl))))))) rfl))))))) rfl))))))) rfl)))))))))))
theorem b58_59 {t0 : Nat} {x1 x2 x3 : Int32}  : hs_R scr d 58 59 [some (.ref t0), some (.int x1), some (.int x2), some (.int x3)] [] (S, I, L, R) = some (none, (S, I, L, R)) := r_rv d58_59 rt58
theorem e59 {t0 : Nat} : hs_C scr d 59 [.ref t0] h = hs_R scr d 59 0 [some (.ref t0), none] [] h := by rw [hs_C, mL59]; rfl
theorem b59_0 {t0 t0_1 t0_0 : Nat} (o_t0 : ok7 S R t0) (e_t0_1 : R t0 1 = t0_1) (o_t0_1 : ok4 S R t0_1) (e_t0_0 : R t0 0 = t0_0) (o_t0_0 : ok8 S R t0_0) : hs_R scr (d + 1) 59 0 [some (.ref t0), none] [] (S, I, L, R) = (if (I t0_1 8) < 5 then ((hs_C scr d 53 [.ref t0, .int 9, .int (I t0_1 8)] (S, I, L, R)).bind fun o => hs_R scr (d + 1) 59 30 [some (.ref t0), some (.int (I t0_1 8))] (o.1.toList ++ []) o.2) else ((hs_C scr d 47 [.ref t0_0, .int 6] (S, I, L, R)).bind fun o => hs_R scr (d + 1) 59 22 [some (.ref t0), some (.int (I t0_1 8))] (o.1.toList ++ []) o.2)) := Eq.trans (r_al_n d59_0 rfl) (Eq.trans (r_getRe d59_1 f59_15 o_t0.2.1 e_t0_1 o_t0_1.1) (Eq.trans (r_getI d59_4 f59_136 o_t0_1.2.1) (Eq.trans (r_is_n (loc' := [some (.ref t0), some (.int (I t0_1 8))]) d59_7 rfl) (Eq.trans (r_il_n d59_8 rfl) (Eq.trans (r_ic d59_9 kI_5) (Eq.trans (r_clt d59_10 rfl) (q_ite (Eq.trans (r_al_n d59_23 rfl) (Eq.trans (r_bp d59_24 kB_9) (Eq.trans (r_il_n d59_26 rfl) (r_cvE (as := [.int 9, .int (I t0_1 8)]) (r := []) d59_27 c59_122 ow53 o_t0.2.1 np53.symm rfl (hs_fitE mL53 (Nat.le_of_ble_eq_true rfl)))))) (Eq.trans (r_al_n d59_13 rfl) (Eq.trans (r_getRe d59_14 f59_9 o_t0.2.1 e_t0_0 o_t0_0.1) (Eq.trans (r_bp d59_17 kB_6) (r_cvE (as := [.int 6]) (r := []) d59_19 c59_74 ow47 o_t0_0.2.1 np47.symm rfl (hs_fitE mL47 (Nat.le_of_ble_eq_true rfl)))))))))))))
theorem b59_22 {t0 : Nat} {x1 s0 : Int32}  : hs_R scr d 59 22 [some (.ref t0), some (.int x1)] [.int s0] (S, I, L, R) = (if s0 = 0 ∨ s0 = 1 then some (some (.int s0), (S, I, L, R)) else none) := r_rz d59_22 rt59
theorem b59_30 {t0 : Nat} {x1 s0 : Int32} (o_t0 : ok7 S R t0) : hs_R scr (d + 1) 59 30 [some (.ref t0), some (.int x1)] [.int s0] (S, I, L, R) = (if s0 = 0 then hs_R scr (d + 1) 59 45 [some (.ref t0), some (.int x1)] [] (S, I, L, R) else ((hs_C scr d 56 [.ref t0, .int 10, .int 1, .int 99] (S, I, L, R)).bind fun o => hs_R scr (d + 1) 59 42 [some (.ref t0), some (.int x1)] (o.1.toList ++ []) o.2)) := Eq.trans (r_zeq d59_30 rfl) (q_ite (rfl) (Eq.trans (r_al_n d59_33 rfl) (Eq.trans (r_bp d59_34 kB_10) (Eq.trans (r_ic d59_36 kI_1) (Eq.trans (r_bp d59_37 kB_99) (r_cvE (as := [.int 10, .int 1, .int 99]) (r := []) d59_39 c59_125 ow56 o_t0.2.1 np56.symm rfl (hs_fitE mL56 (Nat.le_of_ble_eq_true rfl))))))))
theorem b59_42 {t0 t0_1 t0_0 : Nat} {x1 s0 : Int32} (o_t0 : ok7 S R t0) (e_t0_1 : R t0 1 = t0_1) (o_t0_1 : ok4 S R t0_1) (e_t0_0 : R t0 0 = t0_0) (o_t0_0 : ok8 S R t0_0) : hs_R scr (d + 1) 59 42 [some (.ref t0), some (.int x1)] [.int s0] (S, I, L, R) = (if s0 = 0 then hs_R scr (d + 1) 59 45 [some (.ref t0), some (.int x1)] [] (S, I, L, R) else ((hs_C scr d 50 [.ref t0_0] (S, I, L, R)).bind fun o => hs_R scr (d + 1) 59 62 [some (.ref t0), some (.int x1)] (o.1.toList ++ [.int x1, .ref (t0_1 + 10)]) o.2)) := Eq.trans (r_zne d59_42 rfl) (q_ite (rfl) (Eq.trans (r_al_n d59_47 rfl) (Eq.trans (r_getRe d59_48 f59_15 o_t0.2.1 e_t0_1 o_t0_1.1) (Eq.trans (r_getRe d59_51 f59_139 o_t0_1.2.1 (o_t0_1.2.2.2.2.2.2.1) (Nat.le_trans o_t0_1.1 (Nat.le_add_right _ _))) (Eq.trans (r_il_n d59_54 rfl) (Eq.trans (r_al_n d59_55 rfl) (Eq.trans (r_getRe d59_56 f59_9 o_t0.2.1 e_t0_0 o_t0_0.1) (r_cvE (as := []) (r := [.int x1, .ref (t0_1 + 10)]) d59_59 c59_82 ow50 o_t0_0.2.1 np50.symm rfl (hs_fitE mL50 (Nat.le_of_ble_eq_true rfl))))))))))
theorem b59_45 {t0 : Nat} {x1 : Int32}  : hs_R scr d 59 45 [some (.ref t0), some (.int x1)] [] (S, I, L, R) = some (some (.int 0), (S, I, L, R)) := Eq.trans (r_ic d59_45 kI_0) ((r_rz d59_46 rt59).trans (if_pos (Or.inl rfl)))
theorem b59_62 {t0 u0 n_u0 : Nat} {x1 s1 s2 : Int32} (a_u0 : S[u0]? = some (.inr (.int, n_u0))) (o_t0 : ok7 S R t0) : hs_R scr (d + 1) 59 62 [some (.ref t0), some (.int x1)] [.int s2, .int s1, .ref u0] (S, I, L, R) = (if hs_ib s1 n_u0 = true then ((hs_C scr d 56 [.ref t0, .int 11, .int 0, .int 99] (S, (hs_u I u0 (Int32.toNatClampNeg s1) s2), L, R)).bind fun o => hs_R scr (d + 1) 59 72 [some (.ref t0), some (.int x1)] (o.1.toList ++ []) o.2) else none) := Eq.trans (r_iast d59_62 a_u0) (q_ite (Eq.trans (r_al_n d59_63 rfl) (Eq.trans (r_bp d59_64 kB_11) (Eq.trans (r_ic d59_66 kI_0) (Eq.trans (r_bp d59_67 kB_99) (r_cvE (as := [.int 11, .int 0, .int 99]) (r := []) d59_69 c59_125 ow56 o_t0.2.1 np56.symm rfl (hs_fitE mL56 (Nat.le_of_ble_eq_true rfl))))))) rfl)
theorem b59_72 {t0 t0_1 t0_0 : Nat} {x1 s0 : Int32} (o_t0 : ok7 S R t0) (e_t0_1 : R t0 1 = t0_1) (o_t0_1 : ok4 S R t0_1) (e_t0_0 : R t0 0 = t0_0) (o_t0_0 : ok8 S R t0_0) : hs_R scr (d + 1) 59 72 [some (.ref t0), some (.int x1)] [.int s0] (S, I, L, R) = (if s0 = 0 then some (some (.int 0), (S, I, L, R)) else ((hs_C scr d 50 [.ref t0_0] (S, I, L, R)).bind fun o => hs_R scr (d + 1) 59 92 [some (.ref t0), some (.int x1)] (o.1.toList ++ [.int x1, .ref (t0_1 + 11)]) o.2)) := Eq.trans (r_zne d59_72 rfl) (q_ite (Eq.trans (r_ic d59_75 kI_0) ((r_rz d59_76 rt59).trans (if_pos (Or.inl rfl)))) (Eq.trans (r_al_n d59_77 rfl) (Eq.trans (r_getRe d59_78 f59_15 o_t0.2.1 e_t0_1 o_t0_1.1) (Eq.trans (r_getRe d59_81 f59_143 o_t0_1.2.1 (o_t0_1.2.2.2.2.2.2.2.2.1) (Nat.le_trans o_t0_1.1 (Nat.le_add_right _ _))) (Eq.trans (r_il_n d59_84 rfl) (Eq.trans (r_al_n d59_85 rfl) (Eq.trans (r_getRe d59_86 f59_9 o_t0.2.1 e_t0_0 o_t0_0.1) (r_cvE (as := []) (r := [.int x1, .ref (t0_1 + 11)]) d59_89 c59_82 ow50 o_t0_0.2.1 np50.symm rfl (hs_fitE mL50 (Nat.le_of_ble_eq_true rfl))))))))))
theorem b59_92 {t0 u0 n_u0 t0_1 t0_0 : Nat} {x1 s1 s2 : Int32} (a_u0 : S[u0]? = some (.inr (.int, n_u0))) (o_t0 : ok7 S R t0) (e_t0_1 : R t0 1 = t0_1) (o_t0_1 : ok4 S R t0_1) (e_t0_0 : R t0 0 = t0_0) (o_t0_0 : ok8 S R t0_0) : hs_R scr (d + 1) 59 92 [some (.ref t0), some (.int x1)] [.int s2, .int s1, .ref u0] (S, I, L, R) = (if hs_ib s1 n_u0 = true then ((hs_C scr d 49 [.ref t0_0, .int 33] (S, (hs_u (hs_u I u0 (Int32.toNatClampNeg s1) s2) t0_1 8 (((hs_u I u0 (Int32.toNatClampNeg s1) s2) t0_1 8) + 1)), L, R)).bind fun o => hs_R scr (d + 1) 59 115 [some (.ref t0), some (.int x1)] (o.1.toList ++ []) o.2) else none) := Eq.trans (r_iast d59_92 a_u0) (q_ite (Eq.trans (r_al_n d59_93 rfl) (Eq.trans (r_getRe d59_94 f59_15 o_t0.2.1 e_t0_1 o_t0_1.1) (Eq.trans (r_dup d59_97 rfl) (Eq.trans (r_getI d59_98 f59_136 o_t0_1.2.1) (Eq.trans (r_ic d59_101 kI_1) (Eq.trans (r_iadd d59_102) (Eq.trans (r_putI d59_103 f59_136 o_t0_1.2.1) (Eq.trans (r_al_n d59_106 rfl) (Eq.trans (r_getRe d59_107 f59_9 o_t0.2.1 e_t0_0 o_t0_0.1) (Eq.trans (r_bp d59_110 kB_33) (r_cvE (as := [.int 33]) (r := []) d59_112 c59_89 ow49 o_t0_0.2.1 np49.symm rfl (hs_fitE mL49 (Nat.le_of_ble_eq_true rfl))))))))))))) rfl)
theorem b59_115 {t0 : Nat} {x1 s0 : Int32}  : hs_R scr d 59 115 [some (.ref t0), some (.int x1)] [.int s0] (S, I, L, R) = (if s0 = 0 ∨ s0 = 1 then some (some (.int s0), (S, I, L, R)) else none) := r_rz d59_115 rt59
theorem e60 {t0 : Nat} : hs_C scr d 60 [.ref t0] h = hs_R scr d 60 0 [some (.ref t0), none] [] h := by rw [hs_C, mL60]; rfl
theorem b60_0 {t0 t0_1 t0_0 : Nat} (o_t0 : ok7 S R t0) (e_t0_1 : R t0 1 = t0_1) (o_t0_1 : ok4 S R t0_1) (e_t0_0 : R t0 0 = t0_0) (o_t0_0 : ok8 S R t0_0) : hs_R scr (d + 1) 60 0 [some (.ref t0), none] [] (S, I, L, R) = (if (I t0_1 9) < 6 then ((hs_C scr d 53 [.ref t0, .int 12, .int (I t0_1 9)] (S, I, L, R)).bind fun o => hs_R scr (d + 1) 60 31 [some (.ref t0), some (.int (I t0_1 9))] (o.1.toList ++ []) o.2) else ((hs_C scr d 47 [.ref t0_0, .int 6] (S, I, L, R)).bind fun o => hs_R scr (d + 1) 60 23 [some (.ref t0), some (.int (I t0_1 9))] (o.1.toList ++ []) o.2)) := Eq.trans (r_al_n d60_0 rfl) (Eq.trans (r_getRe d60_1 f60_15 o_t0.2.1 e_t0_1 o_t0_1.1) (Eq.trans (r_getI d60_4 f60_40 o_t0_1.2.1) (Eq.trans (r_is_n (loc' := [some (.ref t0), some (.int (I t0_1 9))]) d60_7 rfl) (Eq.trans (r_il_n d60_8 rfl) (Eq.trans (r_bp d60_9 kB_6) (Eq.trans (r_clt d60_11 rfl) (q_ite (Eq.trans (r_al_n d60_24 rfl) (Eq.trans (r_bp d60_25 kB_12) (Eq.trans (r_il_n d60_27 rfl) (r_cvE (as := [.int 12, .int (I t0_1 9)]) (r := []) d60_28 c60_122 ow53 o_t0.2.1 np53.symm rfl (hs_fitE mL53 (Nat.le_of_ble_eq_true rfl)))))) (Eq.trans (r_al_n d60_14 rfl) (Eq.trans (r_getRe d60_15 f60_9 o_t0.2.1 e_t0_0 o_t0_0.1) (Eq.trans (r_bp d60_18 kB_6) (r_cvE (as := [.int 6]) (r := []) d60_20 c60_74 ow47 o_t0_0.2.1 np47.symm rfl (hs_fitE mL47 (Nat.le_of_ble_eq_true rfl)))))))))))))
theorem b60_23 {t0 : Nat} {x1 s0 : Int32}  : hs_R scr d 60 23 [some (.ref t0), some (.int x1)] [.int s0] (S, I, L, R) = (if s0 = 0 ∨ s0 = 1 then some (some (.int s0), (S, I, L, R)) else none) := r_rz d60_23 rt60
theorem b60_31 {t0 : Nat} {x1 s0 : Int32} (o_t0 : ok7 S R t0) : hs_R scr (d + 1) 60 31 [some (.ref t0), some (.int x1)] [.int s0] (S, I, L, R) = (if s0 = 0 then hs_R scr (d + 1) 60 46 [some (.ref t0), some (.int x1)] [] (S, I, L, R) else ((hs_C scr d 56 [.ref t0, .int 13, .int 0, .int 9] (S, I, L, R)).bind fun o => hs_R scr (d + 1) 60 43 [some (.ref t0), some (.int x1)] (o.1.toList ++ []) o.2)) := Eq.trans (r_zeq d60_31 rfl) (q_ite (rfl) (Eq.trans (r_al_n d60_34 rfl) (Eq.trans (r_bp d60_35 kB_13) (Eq.trans (r_ic d60_37 kI_0) (Eq.trans (r_bp d60_38 kB_9) (r_cvE (as := [.int 13, .int 0, .int 9]) (r := []) d60_40 c60_125 ow56 o_t0.2.1 np56.symm rfl (hs_fitE mL56 (Nat.le_of_ble_eq_true rfl))))))))
theorem b60_43 {t0 t0_1 t0_0 : Nat} {x1 s0 : Int32} (o_t0 : ok7 S R t0) (e_t0_1 : R t0 1 = t0_1) (o_t0_1 : ok4 S R t0_1) (e_t0_0 : R t0 0 = t0_0) (o_t0_0 : ok8 S R t0_0) : hs_R scr (d + 1) 60 43 [some (.ref t0), some (.int x1)] [.int s0] (S, I, L, R) = (if s0 = 0 then hs_R scr (d + 1) 60 46 [some (.ref t0), some (.int x1)] [] (S, I, L, R) else ((hs_C scr d 50 [.ref t0_0] (S, I, L, R)).bind fun o => hs_R scr (d + 1) 60 63 [some (.ref t0), some (.int x1)] (o.1.toList ++ [.int x1, .ref (t0_1 + 12)]) o.2)) := Eq.trans (r_zne d60_43 rfl) (q_ite (rfl) (Eq.trans (r_al_n d60_48 rfl) (Eq.trans (r_getRe d60_49 f60_15 o_t0.2.1 e_t0_1 o_t0_1.1) (Eq.trans (r_getRe d60_52 f60_146 o_t0_1.2.1 (o_t0_1.2.2.2.2.2.2.2.2.2.2.1) (Nat.le_trans o_t0_1.1 (Nat.le_add_right _ _))) (Eq.trans (r_il_n d60_55 rfl) (Eq.trans (r_al_n d60_56 rfl) (Eq.trans (r_getRe d60_57 f60_9 o_t0.2.1 e_t0_0 o_t0_0.1) (r_cvE (as := []) (r := [.int x1, .ref (t0_1 + 12)]) d60_60 c60_82 ow50 o_t0_0.2.1 np50.symm rfl (hs_fitE mL50 (Nat.le_of_ble_eq_true rfl))))))))))
theorem b60_46 {t0 : Nat} {x1 : Int32}  : hs_R scr d 60 46 [some (.ref t0), some (.int x1)] [] (S, I, L, R) = some (some (.int 0), (S, I, L, R)) := Eq.trans (r_ic d60_46 kI_0) ((r_rz d60_47 rt60).trans (if_pos (Or.inl rfl)))
theorem b60_63 {t0 u0 n_u0 t0_1 t0_0 : Nat} {x1 s1 s2 : Int32} (a_u0 : S[u0]? = some (.inr (.int, n_u0))) (o_t0 : ok7 S R t0) (e_t0_1 : R t0 1 = t0_1) (o_t0_1 : ok4 S R t0_1) (e_t0_0 : R t0 0 = t0_0) (o_t0_0 : ok8 S R t0_0) : hs_R scr (d + 1) 60 63 [some (.ref t0), some (.int x1)] [.int s2, .int s1, .ref u0] (S, I, L, R) = (if hs_ib s1 n_u0 = true then ((hs_C scr d 49 [.ref t0_0, .int 33] (S, (hs_u (hs_u I u0 (Int32.toNatClampNeg s1) s2) t0_1 9 (((hs_u I u0 (Int32.toNatClampNeg s1) s2) t0_1 9) + 1)), L, R)).bind fun o => hs_R scr (d + 1) 60 86 [some (.ref t0), some (.int x1)] (o.1.toList ++ []) o.2) else none) := Eq.trans (r_iast d60_63 a_u0) (q_ite (Eq.trans (r_al_n d60_64 rfl) (Eq.trans (r_getRe d60_65 f60_15 o_t0.2.1 e_t0_1 o_t0_1.1) (Eq.trans (r_dup d60_68 rfl) (Eq.trans (r_getI d60_69 f60_40 o_t0_1.2.1) (Eq.trans (r_ic d60_72 kI_1) (Eq.trans (r_iadd d60_73) (Eq.trans (r_putI d60_74 f60_40 o_t0_1.2.1) (Eq.trans (r_al_n d60_77 rfl) (Eq.trans (r_getRe d60_78 f60_9 o_t0.2.1 e_t0_0 o_t0_0.1) (Eq.trans (r_bp d60_81 kB_33) (r_cvE (as := [.int 33]) (r := []) d60_83 c60_89 ow49 o_t0_0.2.1 np49.symm rfl (hs_fitE mL49 (Nat.le_of_ble_eq_true rfl))))))))))))) rfl)
theorem b60_86 {t0 : Nat} {x1 s0 : Int32}  : hs_R scr d 60 86 [some (.ref t0), some (.int x1)] [.int s0] (S, I, L, R) = (if s0 = 0 ∨ s0 = 1 then some (some (.int s0), (S, I, L, R)) else none) := r_rz d60_86 rt60
theorem e61 {t0 : Nat} : hs_C scr d 61 [.ref t0] h = hs_R scr d 61 0 [some (.ref t0), none, none, none] [] h := by rw [hs_C, mL61]; rfl
theorem b61_0 {t0 t0_1 t0_0 : Nat} (o_t0 : ok7 S R t0) (e_t0_1 : R t0 1 = t0_1) (o_t0_1 : ok4 S R t0_1) (e_t0_0 : R t0 0 = t0_0) (o_t0_0 : ok8 S R t0_0) : hs_R scr (d + 1) 61 0 [some (.ref t0), none, none, none] [] (S, I, L, R) = (if (I t0_1 10) < 6 then ((hs_C scr d 53 [.ref t0, .int 14, .int (I t0_1 10)] (S, I, L, R)).bind fun o => hs_R scr (d + 1) 61 31 [some (.ref t0), some (.int (I t0_1 10)), none, none] (o.1.toList ++ []) o.2) else ((hs_C scr d 47 [.ref t0_0, .int 6] (S, I, L, R)).bind fun o => hs_R scr (d + 1) 61 23 [some (.ref t0), some (.int (I t0_1 10)), none, none] (o.1.toList ++ []) o.2)) := Eq.trans (r_al_n d61_0 rfl) (Eq.trans (r_getRe d61_1 f61_15 o_t0.2.1 e_t0_1 o_t0_1.1) (Eq.trans (r_getI d61_4 f61_149 o_t0_1.2.1) (Eq.trans (r_is_n (loc' := [some (.ref t0), some (.int (I t0_1 10)), none, none]) d61_7 rfl) (Eq.trans (r_il_n d61_8 rfl) (Eq.trans (r_bp d61_9 kB_6) (Eq.trans (r_clt d61_11 rfl) (q_ite (Eq.trans (r_al_n d61_24 rfl) (Eq.trans (r_bp d61_25 kB_14) (Eq.trans (r_il_n d61_27 rfl) (r_cvE (as := [.int 14, .int (I t0_1 10)]) (r := []) d61_28 c61_122 ow53 o_t0.2.1 np53.symm rfl (hs_fitE mL53 (Nat.le_of_ble_eq_true rfl)))))) (Eq.trans (r_al_n d61_14 rfl) (Eq.trans (r_getRe d61_15 f61_9 o_t0.2.1 e_t0_0 o_t0_0.1) (Eq.trans (r_bp d61_18 kB_6) (r_cvE (as := [.int 6]) (r := []) d61_20 c61_74 ow47 o_t0_0.2.1 np47.symm rfl (hs_fitE mL47 (Nat.le_of_ble_eq_true rfl)))))))))))))
theorem b61_23 {t0 : Nat} {x1 s0 : Int32}  : hs_R scr d 61 23 [some (.ref t0), some (.int x1), none, none] [.int s0] (S, I, L, R) = (if s0 = 0 ∨ s0 = 1 then some (some (.int s0), (S, I, L, R)) else none) := r_rz d61_23 rt61
theorem b61_31 {t0 t0_1 : Nat} {x1 s0 : Int32} (o_t0 : ok7 S R t0) (e_t0_1 : R t0 1 = t0_1) (o_t0_1 : ok4 S R t0_1) : hs_R scr d 61 31 [some (.ref t0), some (.int x1), none, none] [.int s0] (S, I, L, R) = (if s0 = 0 then some (some (.int 0), (S, I, L, R)) else hs_R scr d 61 51 [some (.ref t0), some (.int x1), some (.int 0), none] [] (S, (hs_u I t0_1 10 ((I t0_1 10) + 1)), L, R)) := Eq.trans (r_zne d61_31 rfl) (q_ite (Eq.trans (r_ic d61_34 kI_0) ((r_rz d61_35 rt61).trans (if_pos (Or.inl rfl)))) (Eq.trans (r_al_n d61_36 rfl) (Eq.trans (r_getRe d61_37 f61_15 o_t0.2.1 e_t0_1 o_t0_1.1) (Eq.trans (r_dup d61_40 rfl) (Eq.trans (r_getI d61_41 f61_149 o_t0_1.2.1) (Eq.trans (r_ic d61_44 kI_1) (Eq.trans (r_iadd d61_45) (Eq.trans (r_putI d61_46 f61_149 o_t0_1.2.1) (Eq.trans (r_ic d61_49 kI_0) (Eq.trans (r_is_n (loc' := [some (.ref t0), some (.int x1), some (.int 0), none]) d61_50 rfl) (rfl)))))))))))
theorem b61_51 {t0 t0_0 : Nat} {x1 x2 : Int32} {w3 : Option Value} (o_t0 : ok7 S R t0) (e_t0_0 : R t0 0 = t0_0) (o_t0_0 : ok8 S R t0_0) : hs_R scr (d + 1) 61 51 [some (.ref t0), some (.int x1), some (.int x2), w3] [] (S, I, L, R) = (if (8 : Int32) < x2 then some (some (.int 0), (S, I, L, R)) else ((hs_C scr d 44 [.ref t0_0] (S, I, L, R)).bind fun o => hs_R scr (d + 1) 61 64 [some (.ref t0), some (.int x1), some (.int x2), w3] (o.1.toList ++ []) o.2)) := Eq.trans (r_il_n d61_51 rfl) (Eq.trans (r_bp d61_52 kB_8) (Eq.trans (r_cgt d61_54 rfl) (q_ite (Eq.trans (r_ic d61_142 kI_0) ((r_rz d61_143 rt61).trans (if_pos (Or.inl rfl)))) (Eq.trans (r_al_n d61_57 rfl) (Eq.trans (r_getRe d61_58 f61_9 o_t0.2.1 e_t0_0 o_t0_0.1) (r_cvE (as := []) (r := []) d61_61 c61_31 ow44 o_t0_0.2.1 np44.symm rfl (hs_fitE mL44 (Nat.le_of_ble_eq_true rfl))))))))
theorem b61_64 {t0 t0_0 : Nat} {x1 x2 : Int32} {w3 : Option Value} (o_t0 : ok7 S R t0) (e_t0_0 : R t0 0 = t0_0) (o_t0_0 : ok8 S R t0_0) : hs_R scr (d + 1) 61 64 [some (.ref t0), some (.int x1), some (.int x2), w3] [] (S, I, L, R) = (if (I t0_0 8) = 33 then some (some (.int 1), (S, I, L, R)) else ((hs_C scr d 57 [.int (I t0_0 8)] (S, I, L, R)).bind fun o => hs_R scr (d + 1) 61 88 [some (.ref t0), some (.int x1), some (.int x2), w3] (o.1.toList ++ []) o.2)) := Eq.trans (r_al_n d61_64 rfl) (Eq.trans (r_getRe d61_65 f61_9 o_t0.2.1 e_t0_0 o_t0_0.1) (Eq.trans (r_getI d61_68 f61_36 o_t0_0.2.1) (Eq.trans (r_bp d61_71 kB_33) (Eq.trans (r_cne d61_73 rfl) (q_ite (Eq.trans (r_ic d61_76 kI_1) ((r_rz d61_77 rt61).trans (if_pos (Or.inr rfl)))) (Eq.trans (r_al_n d61_78 rfl) (Eq.trans (r_getRe d61_79 f61_9 o_t0.2.1 e_t0_0 o_t0_0.1) (Eq.trans (r_getI d61_82 f61_36 o_t0_0.2.1) (r_cs (as := [.int (I t0_0 8)]) (r := []) d61_85 c61_129 np57.symm rfl (hs_fitE mL57 (Nat.le_of_ble_eq_true rfl)))))))))))
theorem b61_88 {t0 t0_1 t0_0 : Nat} {x1 x2 s0 : Int32} {w3 : Option Value} (o_t0 : ok7 S R t0) (e_t0_1 : R t0 1 = t0_1) (o_t0_1 : ok4 S R t0_1) (e_t0_0 : R t0 0 = t0_0) (o_t0_0 : ok8 S R t0_0) : hs_R scr (d + 1) 61 88 [some (.ref t0), some (.int x1), some (.int x2), w3] [.int s0] (S, I, L, R) = (if (0 : Int32) ≤ s0 then (if x2 < (I (t0_1 + 5) 4) then ((hs_C scr d 62 [.ref t0_1, .int x1, .int x2, .int s0] (S, I, L, R)).bind fun o => hs_R scr (d + 1) 61 136 [some (.ref t0), some (.int x1), some (.int x2), some (.int s0)] (o.1.toList ++ []) o.2) else ((hs_C scr d 47 [.ref t0_0, .int 6] (S, I, L, R)).bind fun o => hs_R scr (d + 1) 61 125 [some (.ref t0), some (.int x1), some (.int x2), some (.int s0)] (o.1.toList ++ []) o.2)) else ((hs_C scr d 47 [.ref t0_0, .int 2] (S, I, L, R)).bind fun o => hs_R scr (d + 1) 61 101 [some (.ref t0), some (.int x1), some (.int x2), some (.int s0)] (o.1.toList ++ []) o.2)) := Eq.trans (r_is_n (loc' := [some (.ref t0), some (.int x1), some (.int x2), some (.int s0)]) d61_88 rfl) (Eq.trans (r_il_n d61_89 rfl) (Eq.trans (r_zge d61_90 rfl) (q_ite (Eq.trans (r_il_n d61_102 rfl) (Eq.trans (r_al_n d61_103 rfl) (Eq.trans (r_getRe d61_104 f61_15 o_t0.2.1 e_t0_1 o_t0_1.1) (Eq.trans (r_getRe d61_107 f61_113 o_t0_1.2.1 (o_t0_1.2.2.2.2.1) (Nat.le_trans o_t0_1.1 (Nat.le_add_right _ _))) (Eq.trans (r_getI d61_110 f61_117 (o_t0_1.2.2.2.2.2.1).2.1) (Eq.trans (r_clt d61_113 rfl) (q_ite (Eq.trans (r_al_n d61_126 rfl) (Eq.trans (r_getRe d61_127 f61_15 o_t0.2.1 e_t0_1 o_t0_1.1) (Eq.trans (r_il_n d61_130 rfl) (Eq.trans (r_il_n d61_131 rfl) (Eq.trans (r_il_n d61_132 rfl) (r_cvE (as := [.int x1, .int x2, .int s0]) (r := []) d61_133 c61_152 ow62 o_t0_1.2.1 np62.symm rfl (hs_fitE mL62 (Nat.le_of_ble_eq_true rfl)))))))) (Eq.trans (r_al_n d61_116 rfl) (Eq.trans (r_getRe d61_117 f61_9 o_t0.2.1 e_t0_0 o_t0_0.1) (Eq.trans (r_bp d61_120 kB_6) (r_cvE (as := [.int 6]) (r := []) d61_122 c61_74 ow47 o_t0_0.2.1 np47.symm rfl (hs_fitE mL47 (Nat.le_of_ble_eq_true rfl))))))))))))) (Eq.trans (r_al_n d61_93 rfl) (Eq.trans (r_getRe d61_94 f61_9 o_t0.2.1 e_t0_0 o_t0_0.1) (Eq.trans (r_ic d61_97 kI_2) (r_cvE (as := [.int 2]) (r := []) d61_98 c61_74 ow47 o_t0_0.2.1 np47.symm rfl (hs_fitE mL47 (Nat.le_of_ble_eq_true rfl)))))))))
theorem b61_101 {t0 : Nat} {x1 x2 x3 s0 : Int32}  : hs_R scr d 61 101 [some (.ref t0), some (.int x1), some (.int x2), some (.int x3)] [.int s0] (S, I, L, R) = (if s0 = 0 ∨ s0 = 1 then some (some (.int s0), (S, I, L, R)) else none) := r_rz d61_101 rt61
theorem b61_125 {t0 : Nat} {x1 x2 x3 s0 : Int32}  : hs_R scr d 61 125 [some (.ref t0), some (.int x1), some (.int x2), some (.int x3)] [.int s0] (S, I, L, R) = (if s0 = 0 ∨ s0 = 1 then some (some (.int s0), (S, I, L, R)) else none) := r_rz d61_125 rt61
theorem b61_136 {t0 : Nat} {x1 x2 x3 : Int32}  : hs_R scr d 61 136 [some (.ref t0), some (.int x1), some (.int x2), some (.int x3)] [] (S, I, L, R) = hs_R scr d 61 51 [some (.ref t0), some (.int x1), some (.int (x2 + 1)), some (.int x3)] [] (S, I, L, R) := Eq.trans (r_inc (loc' := [some (.ref t0), some (.int x1), some (.int (x2 + 1)), some (.int x3)]) d61_136 kI_1 rfl rfl) (Eq.trans (r_goto d61_139 rfl) (rfl))
theorem e62 {t0 : Nat} {x1 : Int32} {x2 : Int32} {x3 : Int32} : hs_C scr d 62 [.ref t0, .int x1, .int x2, .int x3] h = hs_R scr d 62 0 [some (.ref t0), some (.int x1), some (.int x2), some (.int x3)] [] h := by rw [hs_C, mL62]; rfl
theorem b62_0 {t0 : Nat} {x1 x2 x3 : Int32} (o_t0 : ok4 S R t0) : hs_R scr d 62 0 [some (.ref t0), some (.int x1), some (.int x2), some (.int x3)] [] (S, I, L, R) = (if hs_ib ((x1 * 8) + x2) 48 = true then some (none, (S, (hs_u I (t0 + 13) (Int32.toNatClampNeg ((x1 * 8) + x2)) x3), L, R)) else none) := Eq.trans (r_al_n d62_0 rfl) (Eq.trans (r_getRe d62_1 f62_35 o_t0.2.1 (o_t0.2.2.2.2.2.2.2.2.2.2.2.2.1) (Nat.le_trans o_t0.1 (Nat.le_add_right _ _))) (Eq.trans (r_il_n d62_4 rfl) (Eq.trans (r_bp d62_5 kB_8) (Eq.trans (r_imul d62_7) (Eq.trans (r_il_n d62_8 rfl) (Eq.trans (r_iadd d62_9) (Eq.trans (r_il_n d62_10 rfl) (Eq.trans (r_iast d62_11 (o_t0.2.2.2.2.2.2.2.2.2.2.2.2.2.1)) (q_ite (r_rv d62_12 rt62) rfl)))))))))
theorem e63 {t0 : Nat} : hs_C scr d 63 [.ref t0] h = hs_R scr d 63 0 [some (.ref t0)] [] h := by rw [hs_C, mL63]; rfl
theorem b63_0 {t0 t0_1 t0_0 : Nat} (o_t0 : ok7 S R t0) (e_t0_1 : R t0 1 = t0_1) (o_t0_1 : ok4 S R t0_1) (e_t0_0 : R t0 0 = t0_0) (o_t0_0 : ok8 S R t0_0) : hs_R scr (d + 1) 63 0 [some (.ref t0)] [] (S, I, L, R) = (if (I t0_1 11) < 6 then ((hs_C scr d 53 [.ref t0, .int 15, .int (I t0_1 11)] (S, I, L, R)).bind fun o => hs_R scr (d + 1) 63 35 [some (.ref t0)] (o.1.toList ++ []) o.2) else ((hs_C scr d 47 [.ref t0_0, .int 6] (S, I, L, R)).bind fun o => hs_R scr (d + 1) 63 21 [some (.ref t0)] (o.1.toList ++ []) o.2)) := Eq.trans (r_al_n d63_0 rfl) (Eq.trans (r_getRe d63_1 f63_15 o_t0.2.1 e_t0_1 o_t0_1.1) (Eq.trans (r_getI d63_4 f63_155 o_t0_1.2.1) (Eq.trans (r_bp d63_7 kB_6) (Eq.trans (r_clt d63_9 rfl) (q_ite (Eq.trans (r_al_n d63_22 rfl) (Eq.trans (r_bp d63_23 kB_15) (Eq.trans (r_al_n d63_25 rfl) (Eq.trans (r_getRe d63_26 f63_15 o_t0.2.1 e_t0_1 o_t0_1.1) (Eq.trans (r_getI d63_29 f63_155 o_t0_1.2.1) (r_cvE (as := [.int 15, .int (I t0_1 11)]) (r := []) d63_32 c63_122 ow53 o_t0.2.1 np53.symm rfl (hs_fitE mL53 (Nat.le_of_ble_eq_true rfl)))))))) (Eq.trans (r_al_n d63_12 rfl) (Eq.trans (r_getRe d63_13 f63_9 o_t0.2.1 e_t0_0 o_t0_0.1) (Eq.trans (r_bp d63_16 kB_6) (r_cvE (as := [.int 6]) (r := []) d63_18 c63_74 ow47 o_t0_0.2.1 np47.symm rfl (hs_fitE mL47 (Nat.le_of_ble_eq_true rfl)))))))))))
theorem b63_21 {t0 : Nat} {s0 : Int32}  : hs_R scr d 63 21 [some (.ref t0)] [.int s0] (S, I, L, R) = (if s0 = 0 ∨ s0 = 1 then some (some (.int s0), (S, I, L, R)) else none) := r_rz d63_21 rt63
theorem b63_35 {t0 t0_1 t0_0 : Nat} {s0 : Int32} (o_t0 : ok7 S R t0) (e_t0_1 : R t0 1 = t0_1) (o_t0_1 : ok4 S R t0_1) (e_t0_0 : R t0 0 = t0_0) (o_t0_0 : ok8 S R t0_0) : hs_R scr (d + 1) 63 35 [some (.ref t0)] [.int s0] (S, I, L, R) = (if s0 = 0 then some (some (.int 0), (S, I, L, R)) else ((hs_C scr d 49 [.ref t0_0, .int 33] (S, (hs_u I t0_1 11 ((I t0_1 11) + 1)), L, R)).bind fun o => hs_R scr (d + 1) 63 62 [some (.ref t0)] (o.1.toList ++ []) o.2)) := Eq.trans (r_zne d63_35 rfl) (q_ite (Eq.trans (r_ic d63_38 kI_0) ((r_rz d63_39 rt63).trans (if_pos (Or.inl rfl)))) (Eq.trans (r_al_n d63_40 rfl) (Eq.trans (r_getRe d63_41 f63_15 o_t0.2.1 e_t0_1 o_t0_1.1) (Eq.trans (r_dup d63_44 rfl) (Eq.trans (r_getI d63_45 f63_155 o_t0_1.2.1) (Eq.trans (r_ic d63_48 kI_1) (Eq.trans (r_iadd d63_49) (Eq.trans (r_putI d63_50 f63_155 o_t0_1.2.1) (Eq.trans (r_al_n d63_53 rfl) (Eq.trans (r_getRe d63_54 f63_9 o_t0.2.1 e_t0_0 o_t0_0.1) (Eq.trans (r_bp d63_57 kB_33) (r_cvE (as := [.int 33]) (r := []) d63_59 c63_89 ow49 o_t0_0.2.1 np49.symm rfl (hs_fitE mL49 (Nat.le_of_ble_eq_true rfl))))))))))))))
theorem b63_62 {t0 : Nat} {s0 : Int32}  : hs_R scr d 63 62 [some (.ref t0)] [.int s0] (S, I, L, R) = (if s0 = 0 ∨ s0 = 1 then some (some (.int s0), (S, I, L, R)) else none) := r_rz d63_62 rt63
theorem e64 {t0 : Nat} : hs_C scr d 64 [.ref t0] h = hs_R scr d 64 0 [some (.ref t0), none, none, none] [] h := by rw [hs_C, mL64]; rfl
theorem b64_0 {t0 t0_1 t0_0 : Nat} (o_t0 : ok7 S R t0) (e_t0_1 : R t0 1 = t0_1) (o_t0_1 : ok4 S R t0_1) (e_t0_0 : R t0 0 = t0_0) (o_t0_0 : ok8 S R t0_0) : hs_R scr (d + 1) 64 0 [some (.ref t0), none, none, none] [] (S, I, L, R) = (if (I t0_1 12) < 10 then ((hs_C scr d 65 [.ref t0_0, .int 15, .ref (t0_1 + 1)] (S, I, L, R)).bind fun o => hs_R scr (d + 1) 64 40 [some (.ref t0), some (.int (I t0_1 12)), none, none] (o.1.toList ++ []) o.2) else ((hs_C scr d 47 [.ref t0_0, .int 6] (S, I, L, R)).bind fun o => hs_R scr (d + 1) 64 23 [some (.ref t0), some (.int (I t0_1 12)), none, none] (o.1.toList ++ []) o.2)) := Eq.trans (r_al_n d64_0 rfl) (Eq.trans (r_getRe d64_1 f64_15 o_t0.2.1 e_t0_1 o_t0_1.1) (Eq.trans (r_getI d64_4 f64_158 o_t0_1.2.1) (Eq.trans (r_is_n (loc' := [some (.ref t0), some (.int (I t0_1 12)), none, none]) d64_7 rfl) (Eq.trans (r_il_n d64_8 rfl) (Eq.trans (r_bp d64_9 kB_10) (Eq.trans (r_clt d64_11 rfl) (q_ite (Eq.trans (r_al_n d64_24 rfl) (Eq.trans (r_getRe d64_25 f64_9 o_t0.2.1 e_t0_0 o_t0_0.1) (Eq.trans (r_bp d64_28 kB_15) (Eq.trans (r_al_n d64_30 rfl) (Eq.trans (r_getRe d64_31 f64_15 o_t0.2.1 e_t0_1 o_t0_1.1) (Eq.trans (r_getRe d64_34 f64_95 o_t0_1.2.1 (o_t0_1.2.2.1) (Nat.le_trans o_t0_1.1 (Nat.le_add_right _ _))) (r_cvE (as := [.int 15, .ref (t0_1 + 1)]) (r := []) d64_37 c64_161 ow65 o_t0_0.2.1 np65.symm rfl (hs_fitE mL65 (Nat.le_of_ble_eq_true rfl))))))))) (Eq.trans (r_al_n d64_14 rfl) (Eq.trans (r_getRe d64_15 f64_9 o_t0.2.1 e_t0_0 o_t0_0.1) (Eq.trans (r_bp d64_18 kB_6) (r_cvE (as := [.int 6]) (r := []) d64_20 c64_74 ow47 o_t0_0.2.1 np47.symm rfl (hs_fitE mL47 (Nat.le_of_ble_eq_true rfl)))))))))))))
theorem b64_23 {t0 : Nat} {x1 s0 : Int32}  : hs_R scr d 64 23 [some (.ref t0), some (.int x1), none, none] [.int s0] (S, I, L, R) = (if s0 = 0 ∨ s0 = 1 then some (some (.int s0), (S, I, L, R)) else none) := r_rz d64_23 rt64
theorem b64_40 {t0 t0_0 t0_1 : Nat} {x1 s0 : Int32} (o_t0 : ok7 S R t0) (e_t0_0 : R t0 0 = t0_0) (o_t0_0 : ok8 S R t0_0) (e_t0_1 : R t0 1 = t0_1) (o_t0_1 : ok4 S R t0_1) : hs_R scr (d + 1) 64 40 [some (.ref t0), some (.int x1), none, none] [.int s0] (S, I, L, R) = (if (0 : Int32) ≤ s0 then ((hs_C scr d 65 [.ref t0_0, .int 15, .ref (t0_1 + 1)] (S, I, L, R)).bind fun o => hs_R scr (d + 1) 64 63 [some (.ref t0), some (.int x1), some (.int s0), none] (o.1.toList ++ []) o.2) else some (some (.int 0), (S, I, L, R))) := Eq.trans (r_is_n (loc' := [some (.ref t0), some (.int x1), some (.int s0), none]) d64_40 rfl) (Eq.trans (r_il_n d64_41 rfl) (Eq.trans (r_zge d64_42 rfl) (q_ite (Eq.trans (r_al_n d64_47 rfl) (Eq.trans (r_getRe d64_48 f64_9 o_t0.2.1 e_t0_0 o_t0_0.1) (Eq.trans (r_bp d64_51 kB_15) (Eq.trans (r_al_n d64_53 rfl) (Eq.trans (r_getRe d64_54 f64_15 o_t0.2.1 e_t0_1 o_t0_1.1) (Eq.trans (r_getRe d64_57 f64_95 o_t0_1.2.1 (o_t0_1.2.2.1) (Nat.le_trans o_t0_1.1 (Nat.le_add_right _ _))) (r_cvE (as := [.int 15, .ref (t0_1 + 1)]) (r := []) d64_60 c64_161 ow65 o_t0_0.2.1 np65.symm rfl (hs_fitE mL65 (Nat.le_of_ble_eq_true rfl))))))))) (Eq.trans (r_ic d64_45 kI_0) ((r_rz d64_46 rt64).trans (if_pos (Or.inl rfl)))))))
theorem b64_63 {t0 t0_1 t0_0 : Nat} {x1 x2 s0 : Int32} (o_t0 : ok7 S R t0) (e_t0_1 : R t0 1 = t0_1) (o_t0_1 : ok4 S R t0_1) (e_t0_0 : R t0 0 = t0_0) (o_t0_0 : ok8 S R t0_0) : hs_R scr (d + 1) 64 63 [some (.ref t0), some (.int x1), some (.int x2), none] [.int s0] (S, I, L, R) = (if (0 : Int32) ≤ s0 then (if s0 = x2 then ((hs_C scr d 47 [.ref t0_0, .int 5] (S, I, L, R)).bind fun o => hs_R scr (d + 1) 64 83 [some (.ref t0), some (.int x1), some (.int x2), some (.int s0)] (o.1.toList ++ []) o.2) else (if hs_ib x1 10 = true then (if hs_ib x1 10 = true then ((hs_C scr d 49 [.ref t0_0, .int 33] (S, (hs_u (hs_u (hs_u I (t0_1 + 14) (Int32.toNatClampNeg x1) x2) (t0_1 + 15) (Int32.toNatClampNeg x1) s0) t0_1 12 (((hs_u (hs_u I (t0_1 + 14) (Int32.toNatClampNeg x1) x2) (t0_1 + 15) (Int32.toNatClampNeg x1) s0) t0_1 12) + 1)), L, R)).bind fun o => hs_R scr (d + 1) 64 126 [some (.ref t0), some (.int x1), some (.int x2), some (.int s0)] (o.1.toList ++ []) o.2) else none) else none)) else some (some (.int 0), (S, I, L, R))) := Eq.trans (r_is_n (loc' := [some (.ref t0), some (.int x1), some (.int x2), some (.int s0)]) d64_63 rfl) (Eq.trans (r_il_n d64_64 rfl) (Eq.trans (r_zge d64_65 rfl) (q_ite (Eq.trans (r_il_n d64_70 rfl) (Eq.trans (r_il_n d64_71 rfl) (Eq.trans (r_cne d64_72 rfl) (q_ite (Eq.trans (r_al_n d64_75 rfl) (Eq.trans (r_getRe d64_76 f64_9 o_t0.2.1 e_t0_0 o_t0_0.1) (Eq.trans (r_ic d64_79 kI_5) (r_cvE (as := [.int 5]) (r := []) d64_80 c64_74 ow47 o_t0_0.2.1 np47.symm rfl (hs_fitE mL47 (Nat.le_of_ble_eq_true rfl)))))) (Eq.trans (r_al_n d64_84 rfl) (Eq.trans (r_getRe d64_85 f64_15 o_t0.2.1 e_t0_1 o_t0_1.1) (Eq.trans (r_getRe d64_88 f64_165 o_t0_1.2.1 (o_t0_1.2.2.2.2.2.2.2.2.2.2.2.2.2.2.1) (Nat.le_trans o_t0_1.1 (Nat.le_add_right _ _))) (Eq.trans (r_il_n d64_91 rfl) (Eq.trans (r_il_n d64_92 rfl) (Eq.trans (r_iast d64_93 (o_t0_1.2.2.2.2.2.2.2.2.2.2.2.2.2.2.2.1)) (q_ite (Eq.trans (r_al_n d64_94 rfl) (Eq.trans (r_getRe d64_95 f64_15 o_t0.2.1 e_t0_1 o_t0_1.1) (Eq.trans (r_getRe d64_98 f64_168 o_t0_1.2.1 (o_t0_1.2.2.2.2.2.2.2.2.2.2.2.2.2.2.2.2.1) (Nat.le_trans o_t0_1.1 (Nat.le_add_right _ _))) (Eq.trans (r_il_n d64_101 rfl) (Eq.trans (r_il_n d64_102 rfl) (Eq.trans (r_iast d64_103 (o_t0_1.2.2.2.2.2.2.2.2.2.2.2.2.2.2.2.2.2)) (q_ite (Eq.trans (r_al_n d64_104 rfl) (Eq.trans (r_getRe d64_105 f64_15 o_t0.2.1 e_t0_1 o_t0_1.1) (Eq.trans (r_dup d64_108 rfl) (Eq.trans (r_getI d64_109 f64_158 o_t0_1.2.1) (Eq.trans (r_ic d64_112 kI_1) (Eq.trans (r_iadd d64_113) (Eq.trans (r_putI d64_114 f64_158 o_t0_1.2.1) (Eq.trans (r_al_n d64_117 rfl) (Eq.trans (r_getRe d64_118 f64_9 o_t0.2.1 e_t0_0 o_t0_0.1) (Eq.trans (r_bp d64_121 kB_33) (r_cvE (as := [.int 33]) (r := []) d64_123 c64_89 ow49 o_t0_0.2.1 np49.symm rfl (hs_fitE mL49 (Nat.le_of_ble_eq_true rfl))))))))))))) rfl))))))) rfl))))))))))) (Eq.trans (r_ic d64_68 kI_0) ((r_rz d64_69 rt64).trans (if_pos (Or.inl rfl)))))))
theorem b64_83 {t0 : Nat} {x1 x2 x3 s0 : Int32}  : hs_R scr d 64 83 [some (.ref t0), some (.int x1), some (.int x2), some (.int x3)] [.int s0] (S, I, L, R) = (if s0 = 0 ∨ s0 = 1 then some (some (.int s0), (S, I, L, R)) else none) := r_rz d64_83 rt64
theorem b64_126 {t0 : Nat} {x1 x2 x3 s0 : Int32}  : hs_R scr d 64 126 [some (.ref t0), some (.int x1), some (.int x2), some (.int x3)] [.int s0] (S, I, L, R) = (if s0 = 0 ∨ s0 = 1 then some (some (.int s0), (S, I, L, R)) else none) := r_rz d64_126 rt64
theorem e65 {t0 : Nat} {x1 : Int32} {t2 : Nat} : hs_C scr d 65 [.ref t0, .int x1, .ref t2] h = hs_R scr d 65 0 [some (.ref t0), some (.int x1), some (.ref t2), none] [] h := by rw [hs_C, mL65]; rfl
theorem b65_0 {t0 t2 : Nat} {x1 : Int32} (o_t0 : ok8 S R t0) : hs_R scr (d + 1) 65 0 [some (.ref t0), some (.int x1), some (.ref t2), none] [] (S, I, L, R) = ((hs_C scr d 49 [.ref t0, .int 30] (S, I, L, R)).bind fun o => hs_R scr (d + 1) 65 6 [some (.ref t0), some (.int x1), some (.ref t2), none] (o.1.toList ++ []) o.2) := Eq.trans (r_al_n d65_0 rfl) (Eq.trans (r_bp d65_1 kB_30) (r_cvE (as := [.int 30]) (r := []) d65_3 c65_112 ow49 o_t0.2.1 np49.symm rfl (hs_fitE mL49 (Nat.le_of_ble_eq_true rfl))))
theorem b65_6 {t0 t2 : Nat} {x1 s0 : Int32} (o_t0 : ok8 S R t0) (o_t2 : ok3 S R t2) : hs_R scr (d + 1) 65 6 [some (.ref t0), some (.int x1), some (.ref t2), none] [.int s0] (S, I, L, R) = (if s0 = 0 then some (some (.int (-1)), (S, I, L, R)) else ((hs_C scr d 66 [.ref t2, .long (L t0 10), .int x1] (S, I, L, R)).bind fun o => hs_R scr (d + 1) 65 20 [some (.ref t0), some (.int x1), some (.ref t2), none] (o.1.toList ++ []) o.2)) := Eq.trans (r_zne d65_6 rfl) (q_ite (Eq.trans (r_ic d65_9 kI_m1) (r_ri d65_10 rt65)) (Eq.trans (r_al_n d65_11 rfl) (Eq.trans (r_al_n d65_12 rfl) (Eq.trans (r_getL d65_13 f65_102 o_t0.2.1) (Eq.trans (r_il_n d65_16 rfl) (r_cvE (as := [.long (L t0 10), .int x1]) (r := []) d65_17 c65_115 ow66 o_t2.2.1 np66.symm rfl (hs_fitE mL66 (Nat.le_of_ble_eq_true rfl))))))))
theorem b65_20 {t0 t2 : Nat} {x1 s0 : Int32} (o_t0 : ok8 S R t0) : hs_R scr (d + 1) 65 20 [some (.ref t0), some (.int x1), some (.ref t2), none] [.int s0] (S, I, L, R) = (if (0 : Int32) ≤ s0 then hs_R scr (d + 1) 65 31 [some (.ref t0), some (.int x1), some (.ref t2), some (.int s0)] [] (S, I, L, R) else ((hs_C scr d 47 [.ref t0, .int 3] (S, I, L, R)).bind fun o => hs_R scr (d + 1) 65 30 [some (.ref t0), some (.int x1), some (.ref t2), some (.int s0)] (o.1.toList ++ []) o.2)) := Eq.trans (r_is_n (loc' := [some (.ref t0), some (.int x1), some (.ref t2), some (.int s0)]) d65_20 rfl) (Eq.trans (r_il_n d65_21 rfl) (Eq.trans (r_zge d65_22 rfl) (q_ite (rfl) (Eq.trans (r_al_n d65_25 rfl) (Eq.trans (r_ic d65_26 kI_3) (r_cvE (as := [.int 3]) (r := []) d65_27 c65_109 ow47 o_t0.2.1 np47.symm rfl (hs_fitE mL47 (Nat.le_of_ble_eq_true rfl))))))))
theorem b65_30 {t0 t2 : Nat} {x1 x3 s0 : Int32}  : hs_R scr d 65 30 [some (.ref t0), some (.int x1), some (.ref t2), some (.int x3)] [.int s0] (S, I, L, R) = hs_R scr d 65 31 [some (.ref t0), some (.int x1), some (.ref t2), some (.int x3)] [] (S, I, L, R) := Eq.trans (r_pop d65_30 rfl) (rfl)
theorem b65_31 {t0 t2 : Nat} {x1 x3 : Int32}  : hs_R scr d 65 31 [some (.ref t0), some (.int x1), some (.ref t2), some (.int x3)] [] (S, I, L, R) = some (some (.int x3), (S, I, L, R)) := Eq.trans (r_il_n d65_31 rfl) (r_ri d65_32 rt65)
theorem e66 {t0 : Nat} {y1 : Int64} {x3 : Int32} : hs_C scr d 66 [.ref t0, .long y1, .int x3] h = hs_R scr d 66 0 [some (.ref t0), some (.long y1), none, some (.int x3), none] [] h := by rw [hs_C, mL66]; rfl
theorem b66_0 {t0 : Nat} {y1 : Int64} {x3 : Int32}  : hs_R scr d 66 0 [some (.ref t0), some (.long y1), none, some (.int x3), none] [] (S, I, L, R) = hs_R scr d 66 3 [some (.ref t0), some (.long y1), none, some (.int x3), some (.int 0)] [] (S, I, L, R) := Eq.trans (r_ic d66_0 kI_0) (Eq.trans (r_is (loc' := [some (.ref t0), some (.long y1), none, some (.int x3), some (.int 0)]) d66_1 rfl) (rfl))
theorem b66_3 {t0 : Nat} {y1 : Int64} {x3 x4 : Int32} (o_t0 : ok3 S R t0) : hs_R scr d 66 3 [some (.ref t0), some (.long y1), none, some (.int x3), some (.int x4)] [] (S, I, L, R) = (if (I t0 3) ≤ x4 then some (some (.int (-1)), (S, I, L, R)) else (if hs_ib x4 31 = true then (if (lg_cmp (L (t0 + 1) (Int32.toNatClampNeg x4)) y1) = 0 then (if hs_ib x4 31 = true then (if (I (t0 + 2) (Int32.toNatClampNeg x4)) = x3 then (if hs_ib x4 31 = true then some (some (.int (I (t0 + 3) (Int32.toNatClampNeg x4))), (S, I, L, R)) else none) else hs_R scr d 66 43 [some (.ref t0), some (.long y1), none, some (.int x3), some (.int x4)] [] (S, I, L, R)) else none) else hs_R scr d 66 43 [some (.ref t0), some (.long y1), none, some (.int x3), some (.int x4)] [] (S, I, L, R)) else none)) := Eq.trans (r_il d66_3 rfl) (Eq.trans (r_al_n d66_5 rfl) (Eq.trans (r_getI d66_6 f66_22 o_t0.2.1) (Eq.trans (r_cge d66_9 rfl) (q_ite (Eq.trans (r_ic d66_49 kI_m1) (r_ri d66_50 rt66)) (Eq.trans (r_al_n d66_12 rfl) (Eq.trans (r_getRe d66_13 f66_9 o_t0.2.1 (o_t0.2.2.1) (Nat.le_trans o_t0.1 (Nat.le_add_right _ _))) (Eq.trans (r_il d66_16 rfl) (Eq.trans (r_lald d66_18 (o_t0.2.2.2.1)) (q_ite (Eq.trans (r_ll_n d66_19 rfl) (Eq.trans (r_lcmp d66_20) (Eq.trans (r_zne d66_21 rfl) (q_ite (Eq.trans (r_al_n d66_24 rfl) (Eq.trans (r_getRe d66_25 f66_15 o_t0.2.1 (o_t0.2.2.2.2.1) (Nat.le_trans o_t0.1 (Nat.le_add_right _ _))) (Eq.trans (r_il d66_28 rfl) (Eq.trans (r_iald d66_30 (o_t0.2.2.2.2.2.1)) (q_ite (Eq.trans (r_il_n d66_31 rfl) (Eq.trans (r_cne d66_32 rfl) (q_ite (Eq.trans (r_al_n d66_35 rfl) (Eq.trans (r_getRe d66_36 f66_19 o_t0.2.1 (o_t0.2.2.2.2.2.2.1) (Nat.le_trans o_t0.1 (Nat.le_add_right _ _))) (Eq.trans (r_il d66_39 rfl) (Eq.trans (r_iald d66_41 (o_t0.2.2.2.2.2.2.2)) (q_ite (r_ri d66_42 rt66) rfl))))) (rfl)))) rfl))))) (rfl))))) rfl)))))))))
theorem b66_43 {t0 : Nat} {y1 : Int64} {x3 x4 : Int32}  : hs_R scr d 66 43 [some (.ref t0), some (.long y1), none, some (.int x3), some (.int x4)] [] (S, I, L, R) = hs_R scr d 66 3 [some (.ref t0), some (.long y1), none, some (.int x3), some (.int (x4 + 1))] [] (S, I, L, R) := Eq.trans (r_inc (loc' := [some (.ref t0), some (.long y1), none, some (.int x3), some (.int (x4 + 1))]) d66_43 kI_1 rfl rfl) (Eq.trans (r_goto d66_46 rfl) (rfl))
theorem e67 {t0 : Nat} : hs_C scr d 67 [.ref t0] h = hs_R scr d 67 0 [some (.ref t0)] [] h := by rw [hs_C, mL67]; rfl
theorem b67_0 {t0 : Nat} (o_t0 : ok5 S R t0) : hs_R scr d 67 0 [some (.ref t0)] [] (S, I, L, R) = some (none, (S, (hs_u (hs_u (hs_u I t0 5 0) t0 6 0) t0 7 0), L, R)) := Eq.trans (r_al_n d67_0 rfl) (Eq.trans (r_ic d67_1 kI_0) (Eq.trans (r_putI d67_2 f67_27 o_t0.2.1) (Eq.trans (r_al_n d67_5 rfl) (Eq.trans (r_ic d67_6 kI_0) (Eq.trans (r_putI d67_7 f67_31 o_t0.2.1) (Eq.trans (r_al_n d67_10 rfl) (Eq.trans (r_ic d67_11 kI_0) (Eq.trans ((r_putZ d67_12 f67_34 o_t0.2.1).trans (if_pos (Or.inl rfl))) (r_rv d67_15 rt67)))))))))
theorem e70 {t0 : Nat} {t1 : Nat} {t2 : Nat} {t3 : Nat} : hs_C scr d 70 [.ref t0, .ref t1, .ref t2, .ref t3] h = hs_R scr d 70 0 [some (.ref t0), some (.ref t1), some (.ref t2), some (.ref t3), none] [] h := by rw [hs_C, mL70]; rfl
theorem b70_0 {t0 t1 t2 t3 : Nat} (o_t0 : ok6 S R t0) (o_t1 : ok8 S R t1) : hs_R scr d 70 0 [some (.ref t0), some (.ref t1), some (.ref t2), some (.ref t3), none] [] (S, I, L, R) = hs_R scr d 70 5 [some (.ref t0), some (.ref t1), some (.ref t2), some (.ref t3), none] [] (S, I, L, (hs_u R t0 0 t1)) := Eq.trans (r_al_n d70_0 rfl) (Eq.trans (r_al_n d70_1 rfl) (Eq.trans (r_putR d70_2 f70_15 o_t0.2.1 o_t1.1) (rfl)))
theorem b70_5 {t0 t1 t2 t3 : Nat} (o_t0 : ok6 S R t0) (o_t2 : ok5 S R t2) : hs_R scr d 70 5 [some (.ref t0), some (.ref t1), some (.ref t2), some (.ref t3), none] [] (S, I, L, R) = hs_R scr d 70 10 [some (.ref t0), some (.ref t1), some (.ref t2), some (.ref t3), none] [] (S, I, L, (hs_u R t0 2 t2)) := Eq.trans (r_al_n d70_5 rfl) (Eq.trans (r_al_n d70_6 rfl) (Eq.trans (r_putR d70_7 f70_19 o_t0.2.1 o_t2.1) (rfl)))
theorem b70_10 {t0 t1 t2 t3 : Nat} (o_t0 : ok6 S R t0) (o_t3 : ok3 S R t3) : hs_R scr d 70 10 [some (.ref t0), some (.ref t1), some (.ref t2), some (.ref t3), none] [] (S, I, L, R) = hs_R scr d 70 15 [some (.ref t0), some (.ref t1), some (.ref t2), some (.ref t3), none] [] (S, I, L, (hs_u R t0 3 t3)) := Eq.trans (r_al_n d70_10 rfl) (Eq.trans (r_al_n d70_11 rfl) (Eq.trans (r_putR d70_12 f70_23 o_t0.2.1 o_t3.1) (rfl)))
theorem b70_15 {t0 t1 t2 t3 t0_2 : Nat} (o_t0 : ok6 S R t0) (e_t0_2 : R t0 2 = t0_2) (o_t0_2 : ok5 S R t0_2) : hs_R scr (d + 1) 70 15 [some (.ref t0), some (.ref t1), some (.ref t2), some (.ref t3), none] [] (S, I, L, R) = ((hs_C scr d 67 [.ref t0_2] (S, (hs_u I t0 4 0), L, R)).bind fun o => hs_R scr (d + 1) 70 27 [some (.ref t0), some (.ref t1), some (.ref t2), some (.ref t3), none] (o.1.toList ++ []) o.2) := Eq.trans (r_al_n d70_15 rfl) (Eq.trans (r_ic d70_16 kI_0) (Eq.trans (r_putI d70_17 f70_27 o_t0.2.1) (Eq.trans (r_al_n d70_20 rfl) (Eq.trans (r_getRe d70_21 f70_19 o_t0.2.1 e_t0_2 o_t0_2.1) (r_cvE (as := []) (r := []) d70_24 c70_31 ow67 o_t0_2.2.1 np67.symm rfl (hs_fitE mL67 (Nat.le_of_ble_eq_true rfl)))))))
theorem b70_27 {t0 t1 t2 t3 : Nat}  : hs_R scr d 70 27 [some (.ref t0), some (.ref t1), some (.ref t2), some (.ref t3), none] [] (S, I, L, R) = hs_R scr d 70 30 [some (.ref t0), some (.ref t1), some (.ref t2), some (.ref t3), some (.int 0)] [] (S, I, L, R) := Eq.trans (r_ic d70_27 kI_0) (Eq.trans (r_is (loc' := [some (.ref t0), some (.ref t1), some (.ref t2), some (.ref t3), some (.int 0)]) d70_28 rfl) (rfl))
theorem b70_30 {t0 t1 t2 t3 t0_0 : Nat} {x4 : Int32} (o_t0 : ok6 S R t0) (e_t0_0 : R t0 0 = t0_0) (o_t0_0 : ok8 S R t0_0) : hs_R scr (d + 1) 70 30 [some (.ref t0), some (.ref t1), some (.ref t2), some (.ref t3), some (.int x4)] [] (S, I, L, R) = (if (900 : Int32) < x4 then some (some (.int 0), (S, I, L, R)) else ((hs_C scr d 44 [.ref t0_0] (S, I, L, R)).bind fun o => hs_R scr (d + 1) 70 45 [some (.ref t0), some (.ref t1), some (.ref t2), some (.ref t3), some (.int x4)] (o.1.toList ++ []) o.2)) := Eq.trans (r_il d70_30 rfl) (Eq.trans (r_sp d70_32 kS_900) (Eq.trans (r_cgt d70_35 rfl) (q_ite (Eq.trans (r_ic d70_118 kI_0) ((r_rz d70_119 rt70).trans (if_pos (Or.inl rfl)))) (Eq.trans (r_al_n d70_38 rfl) (Eq.trans (r_getRe d70_39 f70_15 o_t0.2.1 e_t0_0 o_t0_0.1) (r_cvE (as := []) (r := []) d70_42 c70_36 ow44 o_t0_0.2.1 np44.symm rfl (hs_fitE mL44 (Nat.le_of_ble_eq_true rfl))))))))
theorem b70_45 {t0 t1 t2 t3 t0_0 t0_2 : Nat} {x4 : Int32} (o_t0 : ok6 S R t0) (e_t0_0 : R t0 0 = t0_0) (o_t0_0 : ok8 S R t0_0) (e_t0_2 : R t0 2 = t0_2) (o_t0_2 : ok5 S R t0_2) : hs_R scr (d + 1) 70 45 [some (.ref t0), some (.ref t1), some (.ref t2), some (.ref t3), some (.int x4)] [] (S, I, L, R) = (if (I t0_0 8) = 37 then (if (I t0 4) = 0 then hs_R scr (d + 1) 70 73 [some (.ref t0), some (.ref t1), some (.ref t2), some (.ref t3), some (.int x4)] [.int 1, .ref t0_2] (S, I, L, R) else hs_R scr (d + 1) 70 73 [some (.ref t0), some (.ref t1), some (.ref t2), some (.ref t3), some (.int x4)] [.int 0, .ref t0_2] (S, I, L, R)) else ((hs_C scr d 71 [.ref t0] (S, I, L, R)).bind fun o => hs_R scr (d + 1) 70 107 [some (.ref t0), some (.ref t1), some (.ref t2), some (.ref t3), some (.int x4)] (o.1.toList ++ []) o.2)) := Eq.trans (r_al_n d70_45 rfl) (Eq.trans (r_getRe d70_46 f70_15 o_t0.2.1 e_t0_0 o_t0_0.1) (Eq.trans (r_getI d70_49 f70_41 o_t0_0.2.1) (Eq.trans (r_bp d70_52 kB_37) (Eq.trans (r_cne d70_54 rfl) (q_ite (Eq.trans (r_al_n d70_57 rfl) (Eq.trans (r_getRe d70_58 f70_19 o_t0.2.1 e_t0_2 o_t0_2.1) (Eq.trans (r_al_n d70_61 rfl) (Eq.trans (r_getI d70_62 f70_27 o_t0.2.1) (Eq.trans (r_zne d70_65 rfl) (q_ite (Eq.trans (r_ic d70_68 kI_1) (Eq.trans (r_goto d70_69 rfl) (rfl))) (Eq.trans (r_ic d70_72 kI_0) (rfl)))))))) (Eq.trans (r_al_n d70_103 rfl) (r_cvE (as := []) (r := []) d70_104 c70_52 ow71 o_t0.2.1 np71.symm rfl (hs_fitE mL71 (Nat.le_of_ble_eq_true rfl)))))))))
theorem b70_73 {t0 t1 t2 t3 u0 t0_2 t0_0 : Nat} {x4 s1 : Int32} (o_u0 : ok5 S R u0) (o_t0 : ok6 S R t0) (e_t0_2 : R t0 2 = t0_2) (o_t0_2 : ok5 S R t0_2) (e_t0_0 : R t0 0 = t0_0) (o_t0_0 : ok8 S R t0_0) : hs_R scr (d + 1) 70 73 [some (.ref t0), some (.ref t1), some (.ref t2), some (.ref t3), some (.int x4)] [.int s1, .ref u0] (S, I, L, R) = (if s1 = 0 ∨ s1 = 1 then (if ((hs_u I u0 7 s1) t0_2 7) = 0 then ((hs_C scr d 47 [.ref t0_0, .int 2] (S, (hs_u I u0 7 s1), L, R)).bind fun o => hs_R scr (d + 1) 70 94 [some (.ref t0), some (.ref t1), some (.ref t2), some (.ref t3), some (.int x4)] (o.1.toList ++ []) o.2) else hs_R scr (d + 1) 70 97 [some (.ref t0), some (.ref t1), some (.ref t2), some (.ref t3), some (.int x4)] [] (S, (hs_u I u0 7 s1), L, R)) else none) := Eq.trans (r_putZ d70_73 f70_44 o_u0.2.1) (q_ite (Eq.trans (r_al_n d70_76 rfl) (Eq.trans (r_getRe d70_77 f70_19 o_t0.2.1 e_t0_2 o_t0_2.1) (Eq.trans (r_getZ d70_80 f70_44 o_t0_2.2.1) (Eq.trans (r_zne d70_83 rfl) (q_ite (Eq.trans (r_al_n d70_86 rfl) (Eq.trans (r_getRe d70_87 f70_15 o_t0.2.1 e_t0_0 o_t0_0.1) (Eq.trans (r_ic d70_90 kI_2) (r_cvE (as := [.int 2]) (r := []) d70_91 c70_48 ow47 o_t0_0.2.1 np47.symm rfl (hs_fitE mL47 (Nat.le_of_ble_eq_true rfl)))))) (rfl)))))) rfl)
theorem b70_94 {t0 t1 t2 t3 : Nat} {x4 s0 : Int32}  : hs_R scr d 70 94 [some (.ref t0), some (.ref t1), some (.ref t2), some (.ref t3), some (.int x4)] [.int s0] (S, I, L, R) = (if s0 = 0 then hs_R scr d 70 102 [some (.ref t0), some (.ref t1), some (.ref t2), some (.ref t3), some (.int x4)] [.int 0] (S, I, L, R) else hs_R scr d 70 97 [some (.ref t0), some (.ref t1), some (.ref t2), some (.ref t3), some (.int x4)] [] (S, I, L, R)) := Eq.trans (r_zeq d70_94 rfl) (q_ite (Eq.trans (r_ic d70_101 kI_0) (rfl)) (rfl))
theorem b70_97 {t0 t1 t2 t3 : Nat} {x4 : Int32}  : hs_R scr d 70 97 [some (.ref t0), some (.ref t1), some (.ref t2), some (.ref t3), some (.int x4)] [] (S, I, L, R) = hs_R scr d 70 102 [some (.ref t0), some (.ref t1), some (.ref t2), some (.ref t3), some (.int x4)] [.int 1] (S, I, L, R) := Eq.trans (r_ic d70_97 kI_1) (Eq.trans (r_goto d70_98 rfl) (rfl))
theorem b70_102 {t0 t1 t2 t3 : Nat} {x4 s0 : Int32}  : hs_R scr d 70 102 [some (.ref t0), some (.ref t1), some (.ref t2), some (.ref t3), some (.int x4)] [.int s0] (S, I, L, R) = (if s0 = 0 ∨ s0 = 1 then some (some (.int s0), (S, I, L, R)) else none) := r_rz d70_102 rt70
theorem b70_107 {t0 t1 t2 t3 : Nat} {x4 s0 : Int32}  : hs_R scr d 70 107 [some (.ref t0), some (.ref t1), some (.ref t2), some (.ref t3), some (.int x4)] [.int s0] (S, I, L, R) = (if s0 = 0 then some (some (.int 0), (S, I, L, R)) else hs_R scr d 70 30 [some (.ref t0), some (.ref t1), some (.ref t2), some (.ref t3), some (.int (x4 + 1))] [] (S, I, L, R)) := Eq.trans (r_zne d70_107 rfl) (q_ite (Eq.trans (r_ic d70_110 kI_0) ((r_rz d70_111 rt70).trans (if_pos (Or.inl rfl)))) (Eq.trans (r_inc (loc' := [some (.ref t0), some (.ref t1), some (.ref t2), some (.ref t3), some (.int (x4 + 1))]) d70_112 kI_1 rfl rfl) (Eq.trans (r_goto d70_115 rfl) (rfl))))
theorem e71 {t0 : Nat} : hs_C scr d 71 [.ref t0] h = hs_R scr d 71 0 [some (.ref t0), none] [] h := by rw [hs_C, mL71]; rfl
theorem b71_0 {t0 t0_0 : Nat} (o_t0 : ok6 S R t0) (e_t0_0 : R t0 0 = t0_0) (o_t0_0 : ok8 S R t0_0) : hs_R scr (d + 1) 71 0 [some (.ref t0), none] [] (S, I, L, R) = (if (I t0_0 8) = 28 then ((hs_C scr d 72 [.ref t0] (S, I, L, R)).bind fun o => hs_R scr (d + 1) 71 16 [some (.ref t0), none] (o.1.toList ++ []) o.2) else ((hs_C scr d 73 [.int (I t0_0 8)] (S, I, L, R)).bind fun o => hs_R scr (d + 1) 71 27 [some (.ref t0), none] (o.1.toList ++ []) o.2)) := Eq.trans (r_al_n d71_0 rfl) (Eq.trans (r_getRe d71_1 f71_15 o_t0.2.1 e_t0_0 o_t0_0.1) (Eq.trans (r_getI d71_4 f71_41 o_t0_0.2.1) (Eq.trans (r_bp d71_7 kB_28) (Eq.trans (r_cne d71_9 rfl) (q_ite (Eq.trans (r_al_n d71_12 rfl) (r_cvE (as := []) (r := []) d71_13 c71_56 ow72 o_t0.2.1 np72.symm rfl (hs_fitE mL72 (Nat.le_of_ble_eq_true rfl)))) (Eq.trans (r_al_n d71_17 rfl) (Eq.trans (r_getRe d71_18 f71_15 o_t0.2.1 e_t0_0 o_t0_0.1) (Eq.trans (r_getI d71_21 f71_41 o_t0_0.2.1) (r_cs (as := [.int (I t0_0 8)]) (r := []) d71_24 c71_59 np73.symm rfl (hs_fitE mL73 (Nat.le_of_ble_eq_true rfl)))))))))))
theorem b71_16 {t0 : Nat} {s0 : Int32}  : hs_R scr d 71 16 [some (.ref t0), none] [.int s0] (S, I, L, R) = (if s0 = 0 ∨ s0 = 1 then some (some (.int s0), (S, I, L, R)) else none) := r_rz d71_16 rt71
theorem b71_27 {t0 t0_2 t0_0 : Nat} {s0 : Int32} (o_t0 : ok6 S R t0) (e_t0_2 : R t0 2 = t0_2) (o_t0_2 : ok5 S R t0_2) (e_t0_0 : R t0 0 = t0_0) (o_t0_0 : ok8 S R t0_0) : hs_R scr (d + 1) 71 27 [some (.ref t0), none] [.int s0] (S, I, L, R) = (if s0 = 0 then ((hs_C scr d 47 [.ref t0_0, .int 2] (S, I, L, R)).bind fun o => hs_R scr (d + 1) 71 38 [some (.ref t0), none] (o.1.toList ++ []) o.2) else (if (30 : Int32) ≤ (I t0_2 6) then hs_R scr (d + 1) 71 63 [some (.ref t0), none] [] (S, I, L, R) else (if (I t0_2 5) < 60 then (if hs_ib (I t0_2 5) 60 = true then hs_R scr (d + 1) 71 (hs_swt ((hs_u (hs_u (hs_u I (t0_2 + 1) (Int32.toNatClampNeg (I t0_2 5)) (I t0_0 8)) t0_2 6 (((hs_u I (t0_2 + 1) (Int32.toNatClampNeg (I t0_2 5)) (I t0_0 8)) t0_2 6) + 1)) t0_2 5 (((hs_u (hs_u I (t0_2 + 1) (Int32.toNatClampNeg (I t0_2 5)) (I t0_0 8)) t0_2 6 (((hs_u I (t0_2 + 1) (Int32.toNatClampNeg (I t0_2 5)) (I t0_0 8)) t0_2 6) + 1)) t0_2 5) + 1)) t0_0 8) 17 27 [188, 326, 326, 217, 217, 217, 326, 326, 255, 326, 289] 326) [some (.ref t0), some (.int (I t0_2 5))] [] (S, (hs_u (hs_u (hs_u I (t0_2 + 1) (Int32.toNatClampNeg (I t0_2 5)) (I t0_0 8)) t0_2 6 (((hs_u I (t0_2 + 1) (Int32.toNatClampNeg (I t0_2 5)) (I t0_0 8)) t0_2 6) + 1)) t0_2 5 (((hs_u (hs_u I (t0_2 + 1) (Int32.toNatClampNeg (I t0_2 5)) (I t0_0 8)) t0_2 6 (((hs_u I (t0_2 + 1) (Int32.toNatClampNeg (I t0_2 5)) (I t0_0 8)) t0_2 6) + 1)) t0_2 5) + 1)), L, R) else none) else hs_R scr (d + 1) 71 63 [some (.ref t0), none] [] (S, I, L, R)))) := Eq.trans (r_zne d71_27 rfl) (q_ite (Eq.trans (r_al_n d71_30 rfl) (Eq.trans (r_getRe d71_31 f71_15 o_t0.2.1 e_t0_0 o_t0_0.1) (Eq.trans (r_ic d71_34 kI_2) (r_cvE (as := [.int 2]) (r := []) d71_35 c71_48 ow47 o_t0_0.2.1 np47.symm rfl (hs_fitE mL47 (Nat.le_of_ble_eq_true rfl)))))) (Eq.trans (r_al_n d71_39 rfl) (Eq.trans (r_getRe d71_40 f71_19 o_t0.2.1 e_t0_2 o_t0_2.1) (Eq.trans (r_getI d71_43 f71_62 o_t0_2.2.1) (Eq.trans (r_bp d71_46 kB_30) (Eq.trans (r_cge d71_48 rfl) (q_ite (rfl) (Eq.trans (r_al_n d71_51 rfl) (Eq.trans (r_getRe d71_52 f71_19 o_t0.2.1 e_t0_2 o_t0_2.1) (Eq.trans (r_getI d71_55 f71_65 o_t0_2.2.1) (Eq.trans (r_bp d71_58 kB_60) (Eq.trans (r_clt d71_60 rfl) (q_ite (Eq.trans (r_al_n d71_73 rfl) (Eq.trans (r_getRe d71_74 f71_19 o_t0.2.1 e_t0_2 o_t0_2.1) (Eq.trans (r_getI d71_77 f71_65 o_t0_2.2.1) (Eq.trans (r_is_n (loc' := [some (.ref t0), some (.int (I t0_2 5))]) d71_80 rfl) (Eq.trans (r_al_n d71_81 rfl) (Eq.trans (r_getRe d71_82 f71_19 o_t0.2.1 e_t0_2 o_t0_2.1) (Eq.trans (r_getRe d71_85 f71_68 o_t0_2.2.1 (o_t0_2.2.2.1) (Nat.le_trans o_t0_2.1 (Nat.le_add_right _ _))) (Eq.trans (r_il_n d71_88 rfl) (Eq.trans (r_al_n d71_89 rfl) (Eq.trans (r_getRe d71_90 f71_15 o_t0.2.1 e_t0_0 o_t0_0.1) (Eq.trans (r_getI d71_93 f71_41 o_t0_0.2.1) (Eq.trans (r_iast d71_96 (o_t0_2.2.2.2.1)) (q_ite (Eq.trans (r_al_n d71_97 rfl) (Eq.trans (r_getRe d71_98 f71_19 o_t0.2.1 e_t0_2 o_t0_2.1) (Eq.trans (r_dup d71_101 rfl) (Eq.trans (r_getI d71_102 f71_62 o_t0_2.2.1) (Eq.trans (r_ic d71_105 kI_1) (Eq.trans (r_iadd d71_106) (Eq.trans (r_putI d71_107 f71_62 o_t0_2.2.1) (Eq.trans (r_al_n d71_110 rfl) (Eq.trans (r_getRe d71_111 f71_19 o_t0.2.1 e_t0_2 o_t0_2.1) (Eq.trans (r_dup d71_114 rfl) (Eq.trans (r_getI d71_115 f71_65 o_t0_2.2.1) (Eq.trans (r_ic d71_118 kI_1) (Eq.trans (r_iadd d71_119) (Eq.trans (r_putI d71_120 f71_65 o_t0_2.2.1) (Eq.trans (r_al_n d71_123 rfl) (Eq.trans (r_getRe d71_124 f71_15 o_t0.2.1 e_t0_0 o_t0_0.1) (Eq.trans (r_getI d71_127 f71_41 o_t0_0.2.1) (r_tsw d71_130 rfl rfl rfl)))))))))))))))))) rfl))))))))))))) (rfl))))))))))))))
theorem b71_38 {t0 : Nat} {s0 : Int32}  : hs_R scr d 71 38 [some (.ref t0), none] [.int s0] (S, I, L, R) = (if s0 = 0 ∨ s0 = 1 then some (some (.int s0), (S, I, L, R)) else none) := r_rz d71_38 rt71
theorem b71_63 {t0 t0_0 : Nat} (o_t0 : ok6 S R t0) (e_t0_0 : R t0 0 = t0_0) (o_t0_0 : ok8 S R t0_0) : hs_R scr (d + 1) 71 63 [some (.ref t0), none] [] (S, I, L, R) = ((hs_C scr d 47 [.ref t0_0, .int 6] (S, I, L, R)).bind fun o => hs_R scr (d + 1) 71 72 [some (.ref t0), none] (o.1.toList ++ []) o.2) := Eq.trans (r_al_n d71_63 rfl) (Eq.trans (r_getRe d71_64 f71_15 o_t0.2.1 e_t0_0 o_t0_0.1) (Eq.trans (r_bp d71_67 kB_6) (r_cvE (as := [.int 6]) (r := []) d71_69 c71_48 ow47 o_t0_0.2.1 np47.symm rfl (hs_fitE mL47 (Nat.le_of_ble_eq_true rfl)))))
theorem b71_72 {t0 : Nat} {s0 : Int32}  : hs_R scr d 71 72 [some (.ref t0), none] [.int s0] (S, I, L, R) = (if s0 = 0 ∨ s0 = 1 then some (some (.int s0), (S, I, L, R)) else none) := r_rz d71_72 rt71
theorem b71_188 {t0 : Nat} {x1 : Int32} (o_t0 : ok6 S R t0) : hs_R scr (d + 1) 71 188 [some (.ref t0), some (.int x1)] [] (S, I, L, R) = ((hs_C scr d 74 [.ref t0, .int x1, .int 1, .int 20] (S, I, L, R)).bind fun o => hs_R scr (d + 1) 71 196 [some (.ref t0), some (.int x1)] (o.1.toList ++ []) o.2) := Eq.trans (r_al_n d71_188 rfl) (Eq.trans (r_il_n d71_189 rfl) (Eq.trans (r_ic d71_190 kI_1) (Eq.trans (r_bp d71_191 kB_20) (r_cvE (as := [.int x1, .int 1, .int 20]) (r := []) d71_193 c71_71 ow74 o_t0.2.1 np74.symm rfl (hs_fitE mL74 (Nat.le_of_ble_eq_true rfl))))))
theorem b71_196 {t0 t0_0 : Nat} {x1 s0 : Int32} (o_t0 : ok6 S R t0) (e_t0_0 : R t0 0 = t0_0) (o_t0_0 : ok8 S R t0_0) : hs_R scr (d + 1) 71 196 [some (.ref t0), some (.int x1)] [.int s0] (S, I, L, R) = (if s0 = 0 then hs_R scr (d + 1) 71 215 [some (.ref t0), some (.int x1)] [] (S, I, L, R) else ((hs_C scr d 49 [.ref t0_0, .int 33] (S, I, L, R)).bind fun o => hs_R scr (d + 1) 71 208 [some (.ref t0), some (.int x1)] (o.1.toList ++ []) o.2)) := Eq.trans (r_zeq d71_196 rfl) (q_ite (rfl) (Eq.trans (r_al_n d71_199 rfl) (Eq.trans (r_getRe d71_200 f71_15 o_t0.2.1 e_t0_0 o_t0_0.1) (Eq.trans (r_bp d71_203 kB_33) (r_cvE (as := [.int 33]) (r := []) d71_205 c71_75 ow49 o_t0_0.2.1 np49.symm rfl (hs_fitE mL49 (Nat.le_of_ble_eq_true rfl)))))))
theorem b71_208 {t0 : Nat} {x1 s0 : Int32}  : hs_R scr d 71 208 [some (.ref t0), some (.int x1)] [.int s0] (S, I, L, R) = (if s0 = 0 then hs_R scr d 71 215 [some (.ref t0), some (.int x1)] [] (S, I, L, R) else hs_R scr d 71 216 [some (.ref t0), some (.int x1)] [.int 1] (S, I, L, R)) := Eq.trans (r_zeq d71_208 rfl) (q_ite (rfl) (Eq.trans (r_ic d71_211 kI_1) (Eq.trans (r_goto d71_212 rfl) (rfl))))
theorem b71_215 {t0 : Nat} {x1 : Int32}  : hs_R scr d 71 215 [some (.ref t0), some (.int x1)] [] (S, I, L, R) = hs_R scr d 71 216 [some (.ref t0), some (.int x1)] [.int 0] (S, I, L, R) := Eq.trans (r_ic d71_215 kI_0) (rfl)
theorem b71_216 {t0 : Nat} {x1 s0 : Int32}  : hs_R scr d 71 216 [some (.ref t0), some (.int x1)] [.int s0] (S, I, L, R) = (if s0 = 0 ∨ s0 = 1 then some (some (.int s0), (S, I, L, R)) else none) := r_rz d71_216 rt71
theorem b71_217 {t0 : Nat} {x1 : Int32} (o_t0 : ok6 S R t0) : hs_R scr (d + 1) 71 217 [some (.ref t0), some (.int x1)] [] (S, I, L, R) = ((hs_C scr d 75 [.ref t0, .int x1, .int 2] (S, I, L, R)).bind fun o => hs_R scr (d + 1) 71 223 [some (.ref t0), some (.int x1)] (o.1.toList ++ []) o.2) := Eq.trans (r_al_n d71_217 rfl) (Eq.trans (r_il_n d71_218 rfl) (Eq.trans (r_ic d71_219 kI_2) (r_cvE (as := [.int x1, .int 2]) (r := []) d71_220 c71_78 ow75 o_t0.2.1 np75.symm rfl (hs_fitE mL75 (Nat.le_of_ble_eq_true rfl)))))
theorem b71_223 {t0 : Nat} {x1 s0 : Int32} (o_t0 : ok6 S R t0) : hs_R scr (d + 1) 71 223 [some (.ref t0), some (.int x1)] [.int s0] (S, I, L, R) = (if s0 = 0 then hs_R scr (d + 1) 71 253 [some (.ref t0), some (.int x1)] [] (S, I, L, R) else ((hs_C scr d 74 [.ref t0, .int x1, .int 0, .int 99] (S, I, L, R)).bind fun o => hs_R scr (d + 1) 71 234 [some (.ref t0), some (.int x1)] (o.1.toList ++ []) o.2)) := Eq.trans (r_zeq d71_223 rfl) (q_ite (rfl) (Eq.trans (r_al_n d71_226 rfl) (Eq.trans (r_il_n d71_227 rfl) (Eq.trans (r_ic d71_228 kI_0) (Eq.trans (r_bp d71_229 kB_99) (r_cvE (as := [.int x1, .int 0, .int 99]) (r := []) d71_231 c71_71 ow74 o_t0.2.1 np74.symm rfl (hs_fitE mL74 (Nat.le_of_ble_eq_true rfl))))))))
theorem b71_234 {t0 t0_0 : Nat} {x1 s0 : Int32} (o_t0 : ok6 S R t0) (e_t0_0 : R t0 0 = t0_0) (o_t0_0 : ok8 S R t0_0) : hs_R scr (d + 1) 71 234 [some (.ref t0), some (.int x1)] [.int s0] (S, I, L, R) = (if s0 = 0 then hs_R scr (d + 1) 71 253 [some (.ref t0), some (.int x1)] [] (S, I, L, R) else ((hs_C scr d 49 [.ref t0_0, .int 33] (S, I, L, R)).bind fun o => hs_R scr (d + 1) 71 246 [some (.ref t0), some (.int x1)] (o.1.toList ++ []) o.2)) := Eq.trans (r_zeq d71_234 rfl) (q_ite (rfl) (Eq.trans (r_al_n d71_237 rfl) (Eq.trans (r_getRe d71_238 f71_15 o_t0.2.1 e_t0_0 o_t0_0.1) (Eq.trans (r_bp d71_241 kB_33) (r_cvE (as := [.int 33]) (r := []) d71_243 c71_75 ow49 o_t0_0.2.1 np49.symm rfl (hs_fitE mL49 (Nat.le_of_ble_eq_true rfl)))))))
theorem b71_246 {t0 : Nat} {x1 s0 : Int32}  : hs_R scr d 71 246 [some (.ref t0), some (.int x1)] [.int s0] (S, I, L, R) = (if s0 = 0 then hs_R scr d 71 253 [some (.ref t0), some (.int x1)] [] (S, I, L, R) else hs_R scr d 71 254 [some (.ref t0), some (.int x1)] [.int 1] (S, I, L, R)) := Eq.trans (r_zeq d71_246 rfl) (q_ite (rfl) (Eq.trans (r_ic d71_249 kI_1) (Eq.trans (r_goto d71_250 rfl) (rfl))))
theorem b71_253 {t0 : Nat} {x1 : Int32}  : hs_R scr d 71 253 [some (.ref t0), some (.int x1)] [] (S, I, L, R) = hs_R scr d 71 254 [some (.ref t0), some (.int x1)] [.int 0] (S, I, L, R) := Eq.trans (r_ic d71_253 kI_0) (rfl)
theorem b71_254 {t0 : Nat} {x1 s0 : Int32}  : hs_R scr d 71 254 [some (.ref t0), some (.int x1)] [.int s0] (S, I, L, R) = (if s0 = 0 ∨ s0 = 1 then some (some (.int s0), (S, I, L, R)) else none) := r_rz d71_254 rt71
theorem b71_255 {t0 : Nat} {x1 : Int32} (o_t0 : ok6 S R t0) : hs_R scr (d + 1) 71 255 [some (.ref t0), some (.int x1)] [] (S, I, L, R) = ((hs_C scr d 76 [.ref t0, .int x1] (S, I, L, R)).bind fun o => hs_R scr (d + 1) 71 260 [some (.ref t0), some (.int x1)] (o.1.toList ++ []) o.2) := Eq.trans (r_al_n d71_255 rfl) (Eq.trans (r_il_n d71_256 rfl) (r_cvE (as := [.int x1]) (r := []) d71_257 c71_82 ow76 o_t0.2.1 np76.symm rfl (hs_fitE mL76 (Nat.le_of_ble_eq_true rfl))))
theorem b71_260 {t0 : Nat} {x1 s0 : Int32} (o_t0 : ok6 S R t0) : hs_R scr (d + 1) 71 260 [some (.ref t0), some (.int x1)] [.int s0] (S, I, L, R) = (if s0 = 0 then hs_R scr (d + 1) 71 287 [some (.ref t0), some (.int x1)] [] (S, I, L, R) else ((hs_C scr d 77 [.ref t0, .int x1] (S, I, L, R)).bind fun o => hs_R scr (d + 1) 71 268 [some (.ref t0), some (.int x1)] (o.1.toList ++ []) o.2)) := Eq.trans (r_zeq d71_260 rfl) (q_ite (rfl) (Eq.trans (r_al_n d71_263 rfl) (Eq.trans (r_il_n d71_264 rfl) (r_cvE (as := [.int x1]) (r := []) d71_265 c71_85 ow77 o_t0.2.1 np77.symm rfl (hs_fitE mL77 (Nat.le_of_ble_eq_true rfl))))))
theorem b71_268 {t0 t0_0 : Nat} {x1 s0 : Int32} (o_t0 : ok6 S R t0) (e_t0_0 : R t0 0 = t0_0) (o_t0_0 : ok8 S R t0_0) : hs_R scr (d + 1) 71 268 [some (.ref t0), some (.int x1)] [.int s0] (S, I, L, R) = (if s0 = 0 then hs_R scr (d + 1) 71 287 [some (.ref t0), some (.int x1)] [] (S, I, L, R) else ((hs_C scr d 49 [.ref t0_0, .int 33] (S, I, L, R)).bind fun o => hs_R scr (d + 1) 71 280 [some (.ref t0), some (.int x1)] (o.1.toList ++ []) o.2)) := Eq.trans (r_zeq d71_268 rfl) (q_ite (rfl) (Eq.trans (r_al_n d71_271 rfl) (Eq.trans (r_getRe d71_272 f71_15 o_t0.2.1 e_t0_0 o_t0_0.1) (Eq.trans (r_bp d71_275 kB_33) (r_cvE (as := [.int 33]) (r := []) d71_277 c71_75 ow49 o_t0_0.2.1 np49.symm rfl (hs_fitE mL49 (Nat.le_of_ble_eq_true rfl)))))))
theorem b71_280 {t0 : Nat} {x1 s0 : Int32}  : hs_R scr d 71 280 [some (.ref t0), some (.int x1)] [.int s0] (S, I, L, R) = (if s0 = 0 then hs_R scr d 71 287 [some (.ref t0), some (.int x1)] [] (S, I, L, R) else hs_R scr d 71 288 [some (.ref t0), some (.int x1)] [.int 1] (S, I, L, R)) := Eq.trans (r_zeq d71_280 rfl) (q_ite (rfl) (Eq.trans (r_ic d71_283 kI_1) (Eq.trans (r_goto d71_284 rfl) (rfl))))
theorem b71_287 {t0 : Nat} {x1 : Int32}  : hs_R scr d 71 287 [some (.ref t0), some (.int x1)] [] (S, I, L, R) = hs_R scr d 71 288 [some (.ref t0), some (.int x1)] [.int 0] (S, I, L, R) := Eq.trans (r_ic d71_287 kI_0) (rfl)
theorem b71_288 {t0 : Nat} {x1 s0 : Int32}  : hs_R scr d 71 288 [some (.ref t0), some (.int x1)] [.int s0] (S, I, L, R) = (if s0 = 0 ∨ s0 = 1 then some (some (.int s0), (S, I, L, R)) else none) := r_rz d71_288 rt71
theorem b71_289 {t0 : Nat} {x1 : Int32} (o_t0 : ok6 S R t0) : hs_R scr (d + 1) 71 289 [some (.ref t0), some (.int x1)] [] (S, I, L, R) = ((hs_C scr d 76 [.ref t0, .int x1] (S, I, L, R)).bind fun o => hs_R scr (d + 1) 71 294 [some (.ref t0), some (.int x1)] (o.1.toList ++ []) o.2) := Eq.trans (r_al_n d71_289 rfl) (Eq.trans (r_il_n d71_290 rfl) (r_cvE (as := [.int x1]) (r := []) d71_291 c71_82 ow76 o_t0.2.1 np76.symm rfl (hs_fitE mL76 (Nat.le_of_ble_eq_true rfl))))
theorem b71_294 {t0 : Nat} {x1 s0 : Int32} (o_t0 : ok6 S R t0) : hs_R scr (d + 1) 71 294 [some (.ref t0), some (.int x1)] [.int s0] (S, I, L, R) = (if s0 = 0 then hs_R scr (d + 1) 71 324 [some (.ref t0), some (.int x1)] [] (S, I, L, R) else ((hs_C scr d 74 [.ref t0, .int x1, .int 1, .int 99] (S, I, L, R)).bind fun o => hs_R scr (d + 1) 71 305 [some (.ref t0), some (.int x1)] (o.1.toList ++ []) o.2)) := Eq.trans (r_zeq d71_294 rfl) (q_ite (rfl) (Eq.trans (r_al_n d71_297 rfl) (Eq.trans (r_il_n d71_298 rfl) (Eq.trans (r_ic d71_299 kI_1) (Eq.trans (r_bp d71_300 kB_99) (r_cvE (as := [.int x1, .int 1, .int 99]) (r := []) d71_302 c71_71 ow74 o_t0.2.1 np74.symm rfl (hs_fitE mL74 (Nat.le_of_ble_eq_true rfl))))))))
theorem b71_305 {t0 t0_0 : Nat} {x1 s0 : Int32} (o_t0 : ok6 S R t0) (e_t0_0 : R t0 0 = t0_0) (o_t0_0 : ok8 S R t0_0) : hs_R scr (d + 1) 71 305 [some (.ref t0), some (.int x1)] [.int s0] (S, I, L, R) = (if s0 = 0 then hs_R scr (d + 1) 71 324 [some (.ref t0), some (.int x1)] [] (S, I, L, R) else ((hs_C scr d 49 [.ref t0_0, .int 33] (S, I, L, R)).bind fun o => hs_R scr (d + 1) 71 317 [some (.ref t0), some (.int x1)] (o.1.toList ++ []) o.2)) := Eq.trans (r_zeq d71_305 rfl) (q_ite (rfl) (Eq.trans (r_al_n d71_308 rfl) (Eq.trans (r_getRe d71_309 f71_15 o_t0.2.1 e_t0_0 o_t0_0.1) (Eq.trans (r_bp d71_312 kB_33) (r_cvE (as := [.int 33]) (r := []) d71_314 c71_75 ow49 o_t0_0.2.1 np49.symm rfl (hs_fitE mL49 (Nat.le_of_ble_eq_true rfl)))))))
theorem b71_317 {t0 : Nat} {x1 s0 : Int32}  : hs_R scr d 71 317 [some (.ref t0), some (.int x1)] [.int s0] (S, I, L, R) = (if s0 = 0 then hs_R scr d 71 324 [some (.ref t0), some (.int x1)] [] (S, I, L, R) else hs_R scr d 71 325 [some (.ref t0), some (.int x1)] [.int 1] (S, I, L, R)) := Eq.trans (r_zeq d71_317 rfl) (q_ite (rfl) (Eq.trans (r_ic d71_320 kI_1) (Eq.trans (r_goto d71_321 rfl) (rfl))))
theorem b71_324 {t0 : Nat} {x1 : Int32}  : hs_R scr d 71 324 [some (.ref t0), some (.int x1)] [] (S, I, L, R) = hs_R scr d 71 325 [some (.ref t0), some (.int x1)] [.int 0] (S, I, L, R) := Eq.trans (r_ic d71_324 kI_0) (rfl)
theorem b71_325 {t0 : Nat} {x1 s0 : Int32}  : hs_R scr d 71 325 [some (.ref t0), some (.int x1)] [.int s0] (S, I, L, R) = (if s0 = 0 ∨ s0 = 1 then some (some (.int s0), (S, I, L, R)) else none) := r_rz d71_325 rt71
theorem b71_326 {t0 t0_0 : Nat} {x1 : Int32} (o_t0 : ok6 S R t0) (e_t0_0 : R t0 0 = t0_0) (o_t0_0 : ok8 S R t0_0) : hs_R scr (d + 1) 71 326 [some (.ref t0), some (.int x1)] [] (S, I, L, R) = ((hs_C scr d 49 [.ref t0_0, .int 33] (S, I, L, R)).bind fun o => hs_R scr (d + 1) 71 335 [some (.ref t0), some (.int x1)] (o.1.toList ++ []) o.2) := Eq.trans (r_al_n d71_326 rfl) (Eq.trans (r_getRe d71_327 f71_15 o_t0.2.1 e_t0_0 o_t0_0.1) (Eq.trans (r_bp d71_330 kB_33) (r_cvE (as := [.int 33]) (r := []) d71_332 c71_75 ow49 o_t0_0.2.1 np49.symm rfl (hs_fitE mL49 (Nat.le_of_ble_eq_true rfl)))))
theorem b71_335 {t0 : Nat} {x1 s0 : Int32}  : hs_R scr d 71 335 [some (.ref t0), some (.int x1)] [.int s0] (S, I, L, R) = (if s0 = 0 ∨ s0 = 1 then some (some (.int s0), (S, I, L, R)) else none) := r_rz d71_335 rt71
theorem e72 {t0 : Nat} : hs_C scr d 72 [.ref t0] h = hs_R scr d 72 0 [some (.ref t0), none] [] h := by rw [hs_C, mL72]; rfl
theorem b72_0 {t0 t0_2 t0_0 : Nat} (o_t0 : ok6 S R t0) (e_t0_2 : R t0 2 = t0_2) (o_t0_2 : ok5 S R t0_2) (e_t0_0 : R t0 0 = t0_0) (o_t0_0 : ok8 S R t0_0) : hs_R scr (d + 1) 72 0 [some (.ref t0), none] [] (S, I, L, R) = (if (I t0 4) ≤ 0 then hs_R scr (d + 1) 72 19 [some (.ref t0), none] [] (S, I, L, R) else (if (I t0_2 5) < 60 then (if hs_ib ((hs_u I t0 4 ((I t0 4) - 1)) t0_2 5) 60 = true then (if hs_ib ((hs_u (hs_u I t0 4 ((I t0 4) - 1)) (t0_2 + 1) (Int32.toNatClampNeg ((hs_u I t0 4 ((I t0 4) - 1)) t0_2 5)) 28) t0 4) 3 = true then (if hs_ib ((hs_u I t0 4 ((I t0 4) - 1)) t0_2 5) 60 = true then (if hs_ib ((hs_u (hs_u (hs_u I t0 4 ((I t0 4) - 1)) (t0_2 + 1) (Int32.toNatClampNeg ((hs_u I t0 4 ((I t0 4) - 1)) t0_2 5)) 28) (t0_2 + 5) (Int32.toNatClampNeg ((hs_u I t0 4 ((I t0 4) - 1)) t0_2 5)) ((hs_u (hs_u I t0 4 ((I t0 4) - 1)) (t0_2 + 1) (Int32.toNatClampNeg ((hs_u I t0 4 ((I t0 4) - 1)) t0_2 5)) 28) (t0 + 1) (Int32.toNatClampNeg ((hs_u (hs_u I t0 4 ((I t0 4) - 1)) (t0_2 + 1) (Int32.toNatClampNeg ((hs_u I t0 4 ((I t0 4) - 1)) t0_2 5)) 28) t0 4)))) t0 4) 3 = true then (if hs_ib ((hs_u (hs_u (hs_u I t0 4 ((I t0 4) - 1)) (t0_2 + 1) (Int32.toNatClampNeg ((hs_u I t0 4 ((I t0 4) - 1)) t0_2 5)) 28) (t0_2 + 5) (Int32.toNatClampNeg ((hs_u I t0 4 ((I t0 4) - 1)) t0_2 5)) ((hs_u (hs_u I t0 4 ((I t0 4) - 1)) (t0_2 + 1) (Int32.toNatClampNeg ((hs_u I t0 4 ((I t0 4) - 1)) t0_2 5)) 28) (t0 + 1) (Int32.toNatClampNeg ((hs_u (hs_u I t0 4 ((I t0 4) - 1)) (t0_2 + 1) (Int32.toNatClampNeg ((hs_u I t0 4 ((I t0 4) - 1)) t0_2 5)) 28) t0 4)))) (t0 + 1) (Int32.toNatClampNeg ((hs_u (hs_u (hs_u I t0 4 ((I t0 4) - 1)) (t0_2 + 1) (Int32.toNatClampNeg ((hs_u I t0 4 ((I t0 4) - 1)) t0_2 5)) 28) (t0_2 + 5) (Int32.toNatClampNeg ((hs_u I t0 4 ((I t0 4) - 1)) t0_2 5)) ((hs_u (hs_u I t0 4 ((I t0 4) - 1)) (t0_2 + 1) (Int32.toNatClampNeg ((hs_u I t0 4 ((I t0 4) - 1)) t0_2 5)) 28) (t0 + 1) (Int32.toNatClampNeg ((hs_u (hs_u I t0 4 ((I t0 4) - 1)) (t0_2 + 1) (Int32.toNatClampNeg ((hs_u I t0 4 ((I t0 4) - 1)) t0_2 5)) 28) t0 4)))) t0 4))) 60 = true then ((hs_C scr d 49 [.ref t0_0, .int 33] (S, (hs_u (hs_u (hs_u (hs_u (hs_u I t0 4 ((I t0 4) - 1)) (t0_2 + 1) (Int32.toNatClampNeg ((hs_u I t0 4 ((I t0 4) - 1)) t0_2 5)) 28) (t0_2 + 5) (Int32.toNatClampNeg ((hs_u I t0 4 ((I t0 4) - 1)) t0_2 5)) ((hs_u (hs_u I t0 4 ((I t0 4) - 1)) (t0_2 + 1) (Int32.toNatClampNeg ((hs_u I t0 4 ((I t0 4) - 1)) t0_2 5)) 28) (t0 + 1) (Int32.toNatClampNeg ((hs_u (hs_u I t0 4 ((I t0 4) - 1)) (t0_2 + 1) (Int32.toNatClampNeg ((hs_u I t0 4 ((I t0 4) - 1)) t0_2 5)) 28) t0 4)))) (t0_2 + 5) (Int32.toNatClampNeg ((hs_u (hs_u (hs_u I t0 4 ((I t0 4) - 1)) (t0_2 + 1) (Int32.toNatClampNeg ((hs_u I t0 4 ((I t0 4) - 1)) t0_2 5)) 28) (t0_2 + 5) (Int32.toNatClampNeg ((hs_u I t0 4 ((I t0 4) - 1)) t0_2 5)) ((hs_u (hs_u I t0 4 ((I t0 4) - 1)) (t0_2 + 1) (Int32.toNatClampNeg ((hs_u I t0 4 ((I t0 4) - 1)) t0_2 5)) 28) (t0 + 1) (Int32.toNatClampNeg ((hs_u (hs_u I t0 4 ((I t0 4) - 1)) (t0_2 + 1) (Int32.toNatClampNeg ((hs_u I t0 4 ((I t0 4) - 1)) t0_2 5)) 28) t0 4)))) (t0 + 1) (Int32.toNatClampNeg ((hs_u (hs_u (hs_u I t0 4 ((I t0 4) - 1)) (t0_2 + 1) (Int32.toNatClampNeg ((hs_u I t0 4 ((I t0 4) - 1)) t0_2 5)) 28) (t0_2 + 5) (Int32.toNatClampNeg ((hs_u I t0 4 ((I t0 4) - 1)) t0_2 5)) ((hs_u (hs_u I t0 4 ((I t0 4) - 1)) (t0_2 + 1) (Int32.toNatClampNeg ((hs_u I t0 4 ((I t0 4) - 1)) t0_2 5)) 28) (t0 + 1) (Int32.toNatClampNeg ((hs_u (hs_u I t0 4 ((I t0 4) - 1)) (t0_2 + 1) (Int32.toNatClampNeg ((hs_u I t0 4 ((I t0 4) - 1)) t0_2 5)) 28) t0 4)))) t0 4)))) ((hs_u I t0 4 ((I t0 4) - 1)) t0_2 5)) t0_2 5 (((hs_u (hs_u (hs_u (hs_u I t0 4 ((I t0 4) - 1)) (t0_2 + 1) (Int32.toNatClampNeg ((hs_u I t0 4 ((I t0 4) - 1)) t0_2 5)) 28) (t0_2 + 5) (Int32.toNatClampNeg ((hs_u I t0 4 ((I t0 4) - 1)) t0_2 5)) ((hs_u (hs_u I t0 4 ((I t0 4) - 1)) (t0_2 + 1) (Int32.toNatClampNeg ((hs_u I t0 4 ((I t0 4) - 1)) t0_2 5)) 28) (t0 + 1) (Int32.toNatClampNeg ((hs_u (hs_u I t0 4 ((I t0 4) - 1)) (t0_2 + 1) (Int32.toNatClampNeg ((hs_u I t0 4 ((I t0 4) - 1)) t0_2 5)) 28) t0 4)))) (t0_2 + 5) (Int32.toNatClampNeg ((hs_u (hs_u (hs_u I t0 4 ((I t0 4) - 1)) (t0_2 + 1) (Int32.toNatClampNeg ((hs_u I t0 4 ((I t0 4) - 1)) t0_2 5)) 28) (t0_2 + 5) (Int32.toNatClampNeg ((hs_u I t0 4 ((I t0 4) - 1)) t0_2 5)) ((hs_u (hs_u I t0 4 ((I t0 4) - 1)) (t0_2 + 1) (Int32.toNatClampNeg ((hs_u I t0 4 ((I t0 4) - 1)) t0_2 5)) 28) (t0 + 1) (Int32.toNatClampNeg ((hs_u (hs_u I t0 4 ((I t0 4) - 1)) (t0_2 + 1) (Int32.toNatClampNeg ((hs_u I t0 4 ((I t0 4) - 1)) t0_2 5)) 28) t0 4)))) (t0 + 1) (Int32.toNatClampNeg ((hs_u (hs_u (hs_u I t0 4 ((I t0 4) - 1)) (t0_2 + 1) (Int32.toNatClampNeg ((hs_u I t0 4 ((I t0 4) - 1)) t0_2 5)) 28) (t0_2 + 5) (Int32.toNatClampNeg ((hs_u I t0 4 ((I t0 4) - 1)) t0_2 5)) ((hs_u (hs_u I t0 4 ((I t0 4) - 1)) (t0_2 + 1) (Int32.toNatClampNeg ((hs_u I t0 4 ((I t0 4) - 1)) t0_2 5)) 28) (t0 + 1) (Int32.toNatClampNeg ((hs_u (hs_u I t0 4 ((I t0 4) - 1)) (t0_2 + 1) (Int32.toNatClampNeg ((hs_u I t0 4 ((I t0 4) - 1)) t0_2 5)) 28) t0 4)))) t0 4)))) ((hs_u I t0 4 ((I t0 4) - 1)) t0_2 5)) t0_2 5) + 1)), L, R)).bind fun o => hs_R scr (d + 1) 72 115 [some (.ref t0), some (.int ((hs_u I t0 4 ((I t0 4) - 1)) t0_2 5))] (o.1.toList ++ []) o.2) else none) else none) else none) else none) else none) else hs_R scr (d + 1) 72 19 [some (.ref t0), none] [] (S, I, L, R))) := Eq.trans (r_al_n d72_0 rfl) (Eq.trans (r_getI d72_1 f72_27 o_t0.2.1) (Eq.trans (r_zle d72_4 rfl) (q_ite (rfl) (Eq.trans (r_al_n d72_7 rfl) (Eq.trans (r_getRe d72_8 f72_19 o_t0.2.1 e_t0_2 o_t0_2.1) (Eq.trans (r_getI d72_11 f72_65 o_t0_2.2.1) (Eq.trans (r_bp d72_14 kB_60) (Eq.trans (r_clt d72_16 rfl) (q_ite (Eq.trans (r_al_n d72_28 rfl) (Eq.trans (r_dup d72_29 rfl) (Eq.trans (r_getI d72_30 f72_27 o_t0.2.1) (Eq.trans (r_ic d72_33 kI_1) (Eq.trans (r_isub d72_34) (Eq.trans (r_putI d72_35 f72_27 o_t0.2.1) (Eq.trans (r_al_n d72_38 rfl) (Eq.trans (r_getRe d72_39 f72_19 o_t0.2.1 e_t0_2 o_t0_2.1) (Eq.trans (r_getI d72_42 f72_65 o_t0_2.2.1) (Eq.trans (r_is_n (loc' := [some (.ref t0), some (.int ((hs_u I t0 4 ((I t0 4) - 1)) t0_2 5))]) d72_45 rfl) (Eq.trans (r_al_n d72_46 rfl) (Eq.trans (r_getRe d72_47 f72_19 o_t0.2.1 e_t0_2 o_t0_2.1) (Eq.trans (r_getRe d72_50 f72_68 o_t0_2.2.1 (o_t0_2.2.2.1) (Nat.le_trans o_t0_2.1 (Nat.le_add_right _ _))) (Eq.trans (r_il_n d72_53 rfl) (Eq.trans (r_bp d72_54 kB_28) (Eq.trans (r_iast d72_56 (o_t0_2.2.2.2.1)) (q_ite (Eq.trans (r_al_n d72_57 rfl) (Eq.trans (r_getRe d72_58 f72_19 o_t0.2.1 e_t0_2 o_t0_2.1) (Eq.trans (r_getRe d72_61 f72_88 o_t0_2.2.1 (o_t0_2.2.2.2.2.2.2.2.2.2.2.1) (Nat.le_trans o_t0_2.1 (Nat.le_add_right _ _))) (Eq.trans (r_il_n d72_64 rfl) (Eq.trans (r_al_n d72_65 rfl) (Eq.trans (r_getRe d72_66 f72_9 o_t0.2.1 (o_t0.2.2.1) (Nat.le_trans o_t0.1 (Nat.le_add_right _ _))) (Eq.trans (r_al_n d72_69 rfl) (Eq.trans (r_getI d72_70 f72_27 o_t0.2.1) (Eq.trans (r_iald d72_73 (o_t0.2.2.2)) (q_ite (Eq.trans (r_iast d72_74 (o_t0_2.2.2.2.2.2.2.2.2.2.2.2)) (q_ite (Eq.trans (r_al_n d72_75 rfl) (Eq.trans (r_getRe d72_76 f72_19 o_t0.2.1 e_t0_2 o_t0_2.1) (Eq.trans (r_getRe d72_79 f72_88 o_t0_2.2.1 (o_t0_2.2.2.2.2.2.2.2.2.2.2.1) (Nat.le_trans o_t0_2.1 (Nat.le_add_right _ _))) (Eq.trans (r_al_n d72_82 rfl) (Eq.trans (r_getRe d72_83 f72_9 o_t0.2.1 (o_t0.2.2.1) (Nat.le_trans o_t0.1 (Nat.le_add_right _ _))) (Eq.trans (r_al_n d72_86 rfl) (Eq.trans (r_getI d72_87 f72_27 o_t0.2.1) (Eq.trans (r_iald d72_90 (o_t0.2.2.2)) (q_ite (Eq.trans (r_il_n d72_91 rfl) (Eq.trans (r_iast d72_92 (o_t0_2.2.2.2.2.2.2.2.2.2.2.2)) (q_ite (Eq.trans (r_al_n d72_93 rfl) (Eq.trans (r_getRe d72_94 f72_19 o_t0.2.1 e_t0_2 o_t0_2.1) (Eq.trans (r_dup d72_97 rfl) (Eq.trans (r_getI d72_98 f72_65 o_t0_2.2.1) (Eq.trans (r_ic d72_101 kI_1) (Eq.trans (r_iadd d72_102) (Eq.trans (r_putI d72_103 f72_65 o_t0_2.2.1) (Eq.trans (r_al_n d72_106 rfl) (Eq.trans (r_getRe d72_107 f72_15 o_t0.2.1 e_t0_0 o_t0_0.1) (Eq.trans (r_bp d72_110 kB_33) (r_cvE (as := [.int 33]) (r := []) d72_112 c72_75 ow49 o_t0_0.2.1 np49.symm rfl (hs_fitE mL49 (Nat.le_of_ble_eq_true rfl))))))))))))) rfl))) rfl))))))))) rfl)) rfl)))))))))) rfl))))))))))))))))) (rfl))))))))))
theorem b72_19 {t0 t0_0 : Nat} (o_t0 : ok6 S R t0) (e_t0_0 : R t0 0 = t0_0) (o_t0_0 : ok8 S R t0_0) : hs_R scr (d + 1) 72 19 [some (.ref t0), none] [] (S, I, L, R) = ((hs_C scr d 47 [.ref t0_0, .int 2] (S, I, L, R)).bind fun o => hs_R scr (d + 1) 72 27 [some (.ref t0), none] (o.1.toList ++ []) o.2) := Eq.trans (r_al_n d72_19 rfl) (Eq.trans (r_getRe d72_20 f72_15 o_t0.2.1 e_t0_0 o_t0_0.1) (Eq.trans (r_ic d72_23 kI_2) (r_cvE (as := [.int 2]) (r := []) d72_24 c72_48 ow47 o_t0_0.2.1 np47.symm rfl (hs_fitE mL47 (Nat.le_of_ble_eq_true rfl)))))
theorem b72_27 {t0 : Nat} {s0 : Int32}  : hs_R scr d 72 27 [some (.ref t0), none] [.int s0] (S, I, L, R) = (if s0 = 0 ∨ s0 = 1 then some (some (.int s0), (S, I, L, R)) else none) := r_rz d72_27 rt72
theorem b72_115 {t0 : Nat} {x1 s0 : Int32}  : hs_R scr d 72 115 [some (.ref t0), some (.int x1)] [.int s0] (S, I, L, R) = (if s0 = 0 ∨ s0 = 1 then some (some (.int s0), (S, I, L, R)) else none) := r_rz d72_115 rt72
theorem e73 {x0 : Int32} : hs_C scr d 73 [.int x0] h = hs_R scr d 73 0 [some (.int x0)] [] h := by rw [hs_C, mL73]; rfl
theorem b73_0 {x0 : Int32}  : hs_R scr d 73 0 [some (.int x0)] [] (S, I, L, R) = (if x0 < 17 then hs_R scr d 73 12 [some (.int x0)] [] (S, I, L, R) else (if x0 ≤ 25 then hs_R scr d 73 24 [some (.int x0)] [] (S, I, L, R) else hs_R scr d 73 12 [some (.int x0)] [] (S, I, L, R))) := Eq.trans (r_il_n d73_0 rfl) (Eq.trans (r_bp d73_1 kB_17) (Eq.trans (r_clt d73_3 rfl) (q_ite (rfl) (Eq.trans (r_il_n d73_6 rfl) (Eq.trans (r_bp d73_7 kB_25) (Eq.trans (r_cle d73_9 rfl) (q_ite (rfl) (rfl))))))))
theorem b73_12 {x0 : Int32}  : hs_R scr d 73 12 [some (.int x0)] [] (S, I, L, R) = (if x0 = 27 then hs_R scr d 73 24 [some (.int x0)] [] (S, I, L, R) else (if x0 = 29 then hs_R scr d 73 24 [some (.int x0)] [] (S, I, L, R) else hs_R scr d 73 29 [some (.int x0)] [.int 0] (S, I, L, R))) := Eq.trans (r_il_n d73_12 rfl) (Eq.trans (r_bp d73_13 kB_27) (Eq.trans (r_ceq d73_15 rfl) (q_ite (rfl) (Eq.trans (r_il_n d73_18 rfl) (Eq.trans (r_bp d73_19 kB_29) (Eq.trans (r_cne d73_21 rfl) (q_ite (rfl) (Eq.trans (r_ic d73_28 kI_0) (rfl)))))))))
theorem b73_24 {x0 : Int32}  : hs_R scr d 73 24 [some (.int x0)] [] (S, I, L, R) = hs_R scr d 73 29 [some (.int x0)] [.int 1] (S, I, L, R) := Eq.trans (r_ic d73_24 kI_1) (Eq.trans (r_goto d73_25 rfl) (rfl))
theorem b73_29 {x0 s0 : Int32}  : hs_R scr d 73 29 [some (.int x0)] [.int s0] (S, I, L, R) = (if s0 = 0 ∨ s0 = 1 then some (some (.int s0), (S, I, L, R)) else none) := r_rz d73_29 rt73
theorem e74 {t0 : Nat} {x1 : Int32} {x2 : Int32} {x3 : Int32} : hs_C scr d 74 [.ref t0, .int x1, .int x2, .int x3] h = hs_R scr d 74 0 [some (.ref t0), some (.int x1), some (.int x2), some (.int x3)] [] h := by rw [hs_C, mL74]; rfl
theorem b74_0 {t0 t0_0 : Nat} {x1 x2 x3 : Int32} (o_t0 : ok6 S R t0) (e_t0_0 : R t0 0 = t0_0) (o_t0_0 : ok8 S R t0_0) : hs_R scr (d + 1) 74 0 [some (.ref t0), some (.int x1), some (.int x2), some (.int x3)] [] (S, I, L, R) = ((hs_C scr d 48 [.ref t0_0, .int x2, .int x3] (S, I, L, R)).bind fun o => hs_R scr (d + 1) 74 9 [some (.ref t0), some (.int x1), some (.int x2), some (.int x3)] (o.1.toList ++ []) o.2) := Eq.trans (r_al_n d74_0 rfl) (Eq.trans (r_getRe d74_1 f74_15 o_t0.2.1 e_t0_0 o_t0_0.1) (Eq.trans (r_il_n d74_4 rfl) (Eq.trans (r_il_n d74_5 rfl) (r_cvE (as := [.int x2, .int x3]) (r := []) d74_6 c74_91 ow48 o_t0_0.2.1 np48.symm rfl (hs_fitE mL48 (Nat.le_of_ble_eq_true rfl))))))
theorem b74_9 {t0 t0_2 t0_0 : Nat} {x1 x2 x3 s0 : Int32} (o_t0 : ok6 S R t0) (e_t0_2 : R t0 2 = t0_2) (o_t0_2 : ok5 S R t0_2) (e_t0_0 : R t0 0 = t0_0) (o_t0_0 : ok8 S R t0_0) : hs_R scr (d + 1) 74 9 [some (.ref t0), some (.int x1), some (.int x2), some (.int x3)] [.int s0] (S, I, L, R) = (if s0 = 0 then some (some (.int 0), (S, I, L, R)) else ((hs_C scr d 50 [.ref t0_0] (S, I, L, R)).bind fun o => hs_R scr (d + 1) 74 29 [some (.ref t0), some (.int x1), some (.int x2), some (.int x3)] (o.1.toList ++ [.int x1, .ref (t0_2 + 4)]) o.2)) := Eq.trans (r_zne d74_9 rfl) (q_ite (Eq.trans (r_ic d74_12 kI_0) ((r_rz d74_13 rt74).trans (if_pos (Or.inl rfl)))) (Eq.trans (r_al_n d74_14 rfl) (Eq.trans (r_getRe d74_15 f74_19 o_t0.2.1 e_t0_2 o_t0_2.1) (Eq.trans (r_getRe d74_18 f74_94 o_t0_2.2.1 (o_t0_2.2.2.2.2.2.2.2.2.1) (Nat.le_trans o_t0_2.1 (Nat.le_add_right _ _))) (Eq.trans (r_il_n d74_21 rfl) (Eq.trans (r_al_n d74_22 rfl) (Eq.trans (r_getRe d74_23 f74_15 o_t0.2.1 e_t0_0 o_t0_0.1) (r_cvE (as := []) (r := [.int x1, .ref (t0_2 + 4)]) d74_26 c74_97 ow50 o_t0_0.2.1 np50.symm rfl (hs_fitE mL50 (Nat.le_of_ble_eq_true rfl))))))))))
theorem b74_29 {t0 u0 n_u0 : Nat} {x1 x2 x3 s1 s2 : Int32} (a_u0 : S[u0]? = some (.inr (.int, n_u0))) : hs_R scr d 74 29 [some (.ref t0), some (.int x1), some (.int x2), some (.int x3)] [.int s2, .int s1, .ref u0] (S, I, L, R) = (if hs_ib s1 n_u0 = true then some (some (.int 1), (S, (hs_u I u0 (Int32.toNatClampNeg s1) s2), L, R)) else none) := Eq.trans (r_iast d74_29 a_u0) (q_ite (Eq.trans (r_ic d74_30 kI_1) ((r_rz d74_31 rt74).trans (if_pos (Or.inr rfl)))) rfl)
theorem e75 {t0 : Nat} {x1 : Int32} {x2 : Int32} : hs_C scr d 75 [.ref t0, .int x1, .int x2] h = hs_R scr d 75 0 [some (.ref t0), some (.int x1), some (.int x2), none] [] h := by rw [hs_C, mL75]; rfl
theorem b75_0 {t0 t0_0 t0_3 : Nat} {x1 x2 : Int32} (o_t0 : ok6 S R t0) (e_t0_0 : R t0 0 = t0_0) (o_t0_0 : ok8 S R t0_0) (e_t0_3 : R t0 3 = t0_3) (o_t0_3 : ok3 S R t0_3) : hs_R scr (d + 1) 75 0 [some (.ref t0), some (.int x1), some (.int x2), none] [] (S, I, L, R) = ((hs_C scr d 65 [.ref t0_0, .int x2, .ref t0_3] (S, I, L, R)).bind fun o => hs_R scr (d + 1) 75 12 [some (.ref t0), some (.int x1), some (.int x2), none] (o.1.toList ++ []) o.2) := Eq.trans (r_al_n d75_0 rfl) (Eq.trans (r_getRe d75_1 f75_15 o_t0.2.1 e_t0_0 o_t0_0.1) (Eq.trans (r_il_n d75_4 rfl) (Eq.trans (r_al_n d75_5 rfl) (Eq.trans (r_getRe d75_6 f75_23 o_t0.2.1 e_t0_3 o_t0_3.1) (r_cvE (as := [.int x2, .ref t0_3]) (r := []) d75_9 c75_101 ow65 o_t0_0.2.1 np65.symm rfl (hs_fitE mL65 (Nat.le_of_ble_eq_true rfl)))))))
theorem b75_12 {t0 t0_2 : Nat} {x1 x2 s0 : Int32} (o_t0 : ok6 S R t0) (e_t0_2 : R t0 2 = t0_2) (o_t0_2 : ok5 S R t0_2) : hs_R scr d 75 12 [some (.ref t0), some (.int x1), some (.int x2), none] [.int s0] (S, I, L, R) = (if hs_ib x1 60 = true then (if s0 < 0 then hs_R scr d 75 32 [some (.ref t0), some (.int x1), some (.int x2), some (.int s0)] [.int 0] (S, (hs_u I (t0_2 + 3) (Int32.toNatClampNeg x1) s0), L, R) else hs_R scr d 75 32 [some (.ref t0), some (.int x1), some (.int x2), some (.int s0)] [.int 1] (S, (hs_u I (t0_2 + 3) (Int32.toNatClampNeg x1) s0), L, R)) else none) := Eq.trans (r_is_n (loc' := [some (.ref t0), some (.int x1), some (.int x2), some (.int s0)]) d75_12 rfl) (Eq.trans (r_al_n d75_13 rfl) (Eq.trans (r_getRe d75_14 f75_19 o_t0.2.1 e_t0_2 o_t0_2.1) (Eq.trans (r_getRe d75_17 f75_105 o_t0_2.2.1 (o_t0_2.2.2.2.2.2.2.1) (Nat.le_trans o_t0_2.1 (Nat.le_add_right _ _))) (Eq.trans (r_il_n d75_20 rfl) (Eq.trans (r_il_n d75_21 rfl) (Eq.trans (r_iast d75_22 (o_t0_2.2.2.2.2.2.2.2.1)) (q_ite (Eq.trans (r_il_n d75_23 rfl) (Eq.trans (r_zlt d75_24 rfl) (q_ite (Eq.trans (r_ic d75_31 kI_0) (rfl)) (Eq.trans (r_ic d75_27 kI_1) (Eq.trans (r_goto d75_28 rfl) (rfl)))))) rfl)))))))
theorem b75_32 {t0 : Nat} {x1 x2 x3 s0 : Int32}  : hs_R scr d 75 32 [some (.ref t0), some (.int x1), some (.int x2), some (.int x3)] [.int s0] (S, I, L, R) = (if s0 = 0 ∨ s0 = 1 then some (some (.int s0), (S, I, L, R)) else none) := r_rz d75_32 rt75
theorem e76 {t0 : Nat} {x1 : Int32} : hs_C scr d 76 [.ref t0, .int x1] h = hs_R scr d 76 0 [some (.ref t0), some (.int x1)] [] h := by rw [hs_C, mL76]; rfl
theorem b76_0 {t0 t0_0 : Nat} {x1 : Int32} (o_t0 : ok6 S R t0) (e_t0_0 : R t0 0 = t0_0) (o_t0_0 : ok8 S R t0_0) : hs_R scr (d + 1) 76 0 [some (.ref t0), some (.int x1)] [] (S, I, L, R) = (if (I t0 4) < 3 then (if hs_ib (I t0 4) 3 = true then some (some (.int 1), (S, (hs_u (hs_u I (t0 + 1) (Int32.toNatClampNeg (I t0 4)) x1) t0 4 (((hs_u I (t0 + 1) (Int32.toNatClampNeg (I t0 4)) x1) t0 4) + 1)), L, R)) else none) else ((hs_C scr d 47 [.ref t0_0, .int 7] (S, I, L, R)).bind fun o => hs_R scr (d + 1) 76 17 [some (.ref t0), some (.int x1)] (o.1.toList ++ []) o.2)) := Eq.trans (r_al_n d76_0 rfl) (Eq.trans (r_getI d76_1 f76_27 o_t0.2.1) (Eq.trans (r_ic d76_4 kI_3) (Eq.trans (r_clt d76_5 rfl) (q_ite (Eq.trans (r_al_n d76_18 rfl) (Eq.trans (r_getRe d76_19 f76_9 o_t0.2.1 (o_t0.2.2.1) (Nat.le_trans o_t0.1 (Nat.le_add_right _ _))) (Eq.trans (r_al_n d76_22 rfl) (Eq.trans (r_getI d76_23 f76_27 o_t0.2.1) (Eq.trans (r_il_n d76_26 rfl) (Eq.trans (r_iast d76_27 (o_t0.2.2.2)) (q_ite (Eq.trans (r_al_n d76_28 rfl) (Eq.trans (r_dup d76_29 rfl) (Eq.trans (r_getI d76_30 f76_27 o_t0.2.1) (Eq.trans (r_ic d76_33 kI_1) (Eq.trans (r_iadd d76_34) (Eq.trans (r_putI d76_35 f76_27 o_t0.2.1) (Eq.trans (r_ic d76_38 kI_1) ((r_rz d76_39 rt76).trans (if_pos (Or.inr rfl)))))))))) rfl))))))) (Eq.trans (r_al_n d76_8 rfl) (Eq.trans (r_getRe d76_9 f76_15 o_t0.2.1 e_t0_0 o_t0_0.1) (Eq.trans (r_bp d76_12 kB_7) (r_cvE (as := [.int 7]) (r := []) d76_14 c76_48 ow47 o_t0_0.2.1 np47.symm rfl (hs_fitE mL47 (Nat.le_of_ble_eq_true rfl))))))))))
theorem b76_17 {t0 : Nat} {x1 s0 : Int32}  : hs_R scr d 76 17 [some (.ref t0), some (.int x1)] [.int s0] (S, I, L, R) = (if s0 = 0 ∨ s0 = 1 then some (some (.int s0), (S, I, L, R)) else none) := r_rz d76_17 rt76
theorem e77 {t0 : Nat} {x1 : Int32} : hs_C scr d 77 [.ref t0, .int x1] h = hs_R scr d 77 0 [some (.ref t0), some (.int x1)] [] h := by rw [hs_C, mL77]; rfl
theorem b77_0 {t0 t0_0 : Nat} {x1 : Int32} (o_t0 : ok6 S R t0) (e_t0_0 : R t0 0 = t0_0) (o_t0_0 : ok8 S R t0_0) : hs_R scr (d + 1) 77 0 [some (.ref t0), some (.int x1)] [] (S, I, L, R) = ((hs_C scr d 44 [.ref t0_0] (S, I, L, R)).bind fun o => hs_R scr (d + 1) 77 7 [some (.ref t0), some (.int x1)] (o.1.toList ++ []) o.2) := Eq.trans (r_al_n d77_0 rfl) (Eq.trans (r_getRe d77_1 f77_15 o_t0.2.1 e_t0_0 o_t0_0.1) (r_cvE (as := []) (r := []) d77_4 c77_36 ow44 o_t0_0.2.1 np44.symm rfl (hs_fitE mL44 (Nat.le_of_ble_eq_true rfl))))
theorem b77_64 {t0 : Nat} {x1 : Int32}  : hs_R scr d 77 64 [some (.ref t0), some (.int x1)] [] (S, I, L, R) = some (some (.int 1), (S, I, L, R)) := Eq.trans (r_ic d77_64 kI_1) ((r_rz d77_65 rt77).trans (if_pos (Or.inr rfl)))
theorem b77_66 {t0 : Nat} {x1 : Int32} (o_t0 : ok6 S R t0) : hs_R scr (d + 1) 77 66 [some (.ref t0), some (.int x1)] [] (S, I, L, R) = ((hs_C scr d 75 [.ref t0, .int x1, .int 14] (S, I, L, R)).bind fun o => hs_R scr (d + 1) 77 73 [some (.ref t0), some (.int x1)] (o.1.toList ++ []) o.2) := Eq.trans (r_al_n d77_66 rfl) (Eq.trans (r_il_n d77_67 rfl) (Eq.trans (r_bp d77_68 kB_14) (r_cvE (as := [.int x1, .int 14]) (r := []) d77_70 c77_78 ow75 o_t0.2.1 np75.symm rfl (hs_fitE mL75 (Nat.le_of_ble_eq_true rfl)))))
theorem b77_73 {t0 : Nat} {x1 s0 : Int32}  : hs_R scr d 77 73 [some (.ref t0), some (.int x1)] [.int s0] (S, I, L, R) = (if s0 = 0 ∨ s0 = 1 then some (some (.int s0), (S, I, L, R)) else none) := r_rz d77_73 rt77
theorem b77_74 {t0 : Nat} {x1 : Int32} (o_t0 : ok6 S R t0) : hs_R scr (d + 1) 77 74 [some (.ref t0), some (.int x1)] [] (S, I, L, R) = ((hs_C scr d 75 [.ref t0, .int x1, .int 2] (S, I, L, R)).bind fun o => hs_R scr (d + 1) 77 80 [some (.ref t0), some (.int x1)] (o.1.toList ++ []) o.2) := Eq.trans (r_al_n d77_74 rfl) (Eq.trans (r_il_n d77_75 rfl) (Eq.trans (r_ic d77_76 kI_2) (r_cvE (as := [.int x1, .int 2]) (r := []) d77_77 c77_78 ow75 o_t0.2.1 np75.symm rfl (hs_fitE mL75 (Nat.le_of_ble_eq_true rfl)))))
theorem b77_80 {t0 : Nat} {x1 s0 : Int32} (o_t0 : ok6 S R t0) : hs_R scr (d + 1) 77 80 [some (.ref t0), some (.int x1)] [.int s0] (S, I, L, R) = (if s0 = 0 then hs_R scr (d + 1) 77 106 [some (.ref t0), some (.int x1)] [] (S, I, L, R) else ((hs_C scr d 78 [.ref t0, .int x1] (S, I, L, R)).bind fun o => hs_R scr (d + 1) 77 88 [some (.ref t0), some (.int x1)] (o.1.toList ++ []) o.2)) := Eq.trans (r_zeq d77_80 rfl) (q_ite (rfl) (Eq.trans (r_al_n d77_83 rfl) (Eq.trans (r_il_n d77_84 rfl) (r_cvE (as := [.int x1]) (r := []) d77_85 c77_111 ow78 o_t0.2.1 np78.symm rfl (hs_fitE mL78 (Nat.le_of_ble_eq_true rfl))))))
theorem b77_88 {t0 : Nat} {x1 s0 : Int32} (o_t0 : ok6 S R t0) : hs_R scr (d + 1) 77 88 [some (.ref t0), some (.int x1)] [.int s0] (S, I, L, R) = (if s0 = 0 then hs_R scr (d + 1) 77 106 [some (.ref t0), some (.int x1)] [] (S, I, L, R) else ((hs_C scr d 74 [.ref t0, .int x1, .int 0, .int 99] (S, I, L, R)).bind fun o => hs_R scr (d + 1) 77 99 [some (.ref t0), some (.int x1)] (o.1.toList ++ []) o.2)) := Eq.trans (r_zeq d77_88 rfl) (q_ite (rfl) (Eq.trans (r_al_n d77_91 rfl) (Eq.trans (r_il_n d77_92 rfl) (Eq.trans (r_ic d77_93 kI_0) (Eq.trans (r_bp d77_94 kB_99) (r_cvE (as := [.int x1, .int 0, .int 99]) (r := []) d77_96 c77_71 ow74 o_t0.2.1 np74.symm rfl (hs_fitE mL74 (Nat.le_of_ble_eq_true rfl))))))))
theorem b77_99 {t0 : Nat} {x1 s0 : Int32}  : hs_R scr d 77 99 [some (.ref t0), some (.int x1)] [.int s0] (S, I, L, R) = (if s0 = 0 then hs_R scr d 77 106 [some (.ref t0), some (.int x1)] [] (S, I, L, R) else hs_R scr d 77 107 [some (.ref t0), some (.int x1)] [.int 1] (S, I, L, R)) := Eq.trans (r_zeq d77_99 rfl) (q_ite (rfl) (Eq.trans (r_ic d77_102 kI_1) (Eq.trans (r_goto d77_103 rfl) (rfl))))
theorem b77_106 {t0 : Nat} {x1 : Int32}  : hs_R scr d 77 106 [some (.ref t0), some (.int x1)] [] (S, I, L, R) = hs_R scr d 77 107 [some (.ref t0), some (.int x1)] [.int 0] (S, I, L, R) := Eq.trans (r_ic d77_106 kI_0) (rfl)
theorem b77_107 {t0 : Nat} {x1 s0 : Int32}  : hs_R scr d 77 107 [some (.ref t0), some (.int x1)] [.int s0] (S, I, L, R) = (if s0 = 0 ∨ s0 = 1 then some (some (.int s0), (S, I, L, R)) else none) := r_rz d77_107 rt77
theorem b77_108 {t0 t0_0 : Nat} {x1 : Int32} (o_t0 : ok6 S R t0) (e_t0_0 : R t0 0 = t0_0) (o_t0_0 : ok8 S R t0_0) : hs_R scr (d + 1) 77 108 [some (.ref t0), some (.int x1)] [] (S, I, L, R) = ((hs_C scr d 47 [.ref t0_0, .int 2] (S, I, L, R)).bind fun o => hs_R scr (d + 1) 77 116 [some (.ref t0), some (.int x1)] (o.1.toList ++ []) o.2) := Eq.trans (r_al_n d77_108 rfl) (Eq.trans (r_getRe d77_109 f77_15 o_t0.2.1 e_t0_0 o_t0_0.1) (Eq.trans (r_ic d77_112 kI_2) (r_cvE (as := [.int 2]) (r := []) d77_113 c77_48 ow47 o_t0_0.2.1 np47.symm rfl (hs_fitE mL47 (Nat.le_of_ble_eq_true rfl)))))
theorem b77_116 {t0 : Nat} {x1 s0 : Int32}  : hs_R scr d 77 116 [some (.ref t0), some (.int x1)] [.int s0] (S, I, L, R) = (if s0 = 0 ∨ s0 = 1 then some (some (.int s0), (S, I, L, R)) else none) := r_rz d77_116 rt77
theorem e78 {t0 : Nat} {x1 : Int32} : hs_C scr d 78 [.ref t0, .int x1] h = hs_R scr d 78 0 [some (.ref t0), some (.int x1)] [] h := by rw [hs_C, mL78]; rfl
theorem b78_0 {t0 t0_0 : Nat} {x1 : Int32} (o_t0 : ok6 S R t0) (e_t0_0 : R t0 0 = t0_0) (o_t0_0 : ok8 S R t0_0) : hs_R scr (d + 1) 78 0 [some (.ref t0), some (.int x1)] [] (S, I, L, R) = ((hs_C scr d 44 [.ref t0_0] (S, I, L, R)).bind fun o => hs_R scr (d + 1) 78 7 [some (.ref t0), some (.int x1)] (o.1.toList ++ []) o.2) := Eq.trans (r_al_n d78_0 rfl) (Eq.trans (r_getRe d78_1 f78_15 o_t0.2.1 e_t0_0 o_t0_0.1) (r_cvE (as := []) (r := []) d78_4 c78_36 ow44 o_t0_0.2.1 np44.symm rfl (hs_fitE mL44 (Nat.le_of_ble_eq_true rfl))))
theorem b78_7 {t0 t0_2 t0_0 : Nat} {x1 : Int32} (o_t0 : ok6 S R t0) (e_t0_2 : R t0 2 = t0_2) (o_t0_2 : ok5 S R t0_2) (e_t0_0 : R t0 0 = t0_0) (o_t0_0 : ok8 S R t0_0) : hs_R scr (d + 1) 78 7 [some (.ref t0), some (.int x1)] [] (S, I, L, R) = (if hs_ib x1 60 = true then (if ((hs_u I (t0_2 + 2) (Int32.toNatClampNeg x1) (I t0_0 8)) t0_0 8) = 34 then hs_R scr (d + 1) 78 70 [some (.ref t0), some (.int x1)] [] (S, (hs_u I (t0_2 + 2) (Int32.toNatClampNeg x1) (I t0_0 8)), L, R) else (if ((hs_u I (t0_2 + 2) (Int32.toNatClampNeg x1) (I t0_0 8)) t0_0 8) = 35 then hs_R scr (d + 1) 78 70 [some (.ref t0), some (.int x1)] [] (S, (hs_u I (t0_2 + 2) (Int32.toNatClampNeg x1) (I t0_0 8)), L, R) else (if ((hs_u I (t0_2 + 2) (Int32.toNatClampNeg x1) (I t0_0 8)) t0_0 8) = 36 then hs_R scr (d + 1) 78 70 [some (.ref t0), some (.int x1)] [] (S, (hs_u I (t0_2 + 2) (Int32.toNatClampNeg x1) (I t0_0 8)), L, R) else ((hs_C scr d 47 [.ref t0_0, .int 2] (S, (hs_u I (t0_2 + 2) (Int32.toNatClampNeg x1) (I t0_0 8)), L, R)).bind fun o => hs_R scr (d + 1) 78 67 [some (.ref t0), some (.int x1)] (o.1.toList ++ []) o.2)))) else none) := Eq.trans (r_al_n d78_7 rfl) (Eq.trans (r_getRe d78_8 f78_19 o_t0.2.1 e_t0_2 o_t0_2.1) (Eq.trans (r_getRe d78_11 f78_108 o_t0_2.2.1 (o_t0_2.2.2.2.2.1) (Nat.le_trans o_t0_2.1 (Nat.le_add_right _ _))) (Eq.trans (r_il_n d78_14 rfl) (Eq.trans (r_al_n d78_15 rfl) (Eq.trans (r_getRe d78_16 f78_15 o_t0.2.1 e_t0_0 o_t0_0.1) (Eq.trans (r_getI d78_19 f78_41 o_t0_0.2.1) (Eq.trans (r_iast d78_22 (o_t0_2.2.2.2.2.2.1)) (q_ite (Eq.trans (r_al_n d78_23 rfl) (Eq.trans (r_getRe d78_24 f78_15 o_t0.2.1 e_t0_0 o_t0_0.1) (Eq.trans (r_getI d78_27 f78_41 o_t0_0.2.1) (Eq.trans (r_bp d78_30 kB_34) (Eq.trans (r_ceq d78_32 rfl) (q_ite (rfl) (Eq.trans (r_al_n d78_35 rfl) (Eq.trans (r_getRe d78_36 f78_15 o_t0.2.1 e_t0_0 o_t0_0.1) (Eq.trans (r_getI d78_39 f78_41 o_t0_0.2.1) (Eq.trans (r_bp d78_42 kB_35) (Eq.trans (r_ceq d78_44 rfl) (q_ite (rfl) (Eq.trans (r_al_n d78_47 rfl) (Eq.trans (r_getRe d78_48 f78_15 o_t0.2.1 e_t0_0 o_t0_0.1) (Eq.trans (r_getI d78_51 f78_41 o_t0_0.2.1) (Eq.trans (r_bp d78_54 kB_36) (Eq.trans (r_ceq d78_56 rfl) (q_ite (rfl) (Eq.trans (r_al_n d78_59 rfl) (Eq.trans (r_getRe d78_60 f78_15 o_t0.2.1 e_t0_0 o_t0_0.1) (Eq.trans (r_ic d78_63 kI_2) (r_cvE (as := [.int 2]) (r := []) d78_64 c78_48 ow47 o_t0_0.2.1 np47.symm rfl (hs_fitE mL47 (Nat.le_of_ble_eq_true rfl)))))))))))))))))))))))) rfl))))))))
theorem b78_67 {t0 : Nat} {x1 s0 : Int32}  : hs_R scr d 78 67 [some (.ref t0), some (.int x1)] [.int s0] (S, I, L, R) = (if s0 = 0 then hs_R scr d 78 75 [some (.ref t0), some (.int x1)] [.int 0] (S, I, L, R) else hs_R scr d 78 70 [some (.ref t0), some (.int x1)] [] (S, I, L, R)) := Eq.trans (r_zeq d78_67 rfl) (q_ite (Eq.trans (r_ic d78_74 kI_0) (rfl)) (rfl))
theorem b78_70 {t0 : Nat} {x1 : Int32}  : hs_R scr d 78 70 [some (.ref t0), some (.int x1)] [] (S, I, L, R) = hs_R scr d 78 75 [some (.ref t0), some (.int x1)] [.int 1] (S, I, L, R) := Eq.trans (r_ic d78_70 kI_1) (Eq.trans (r_goto d78_71 rfl) (rfl))
theorem b78_75 {t0 : Nat} {x1 s0 : Int32}  : hs_R scr d 78 75 [some (.ref t0), some (.int x1)] [.int s0] (S, I, L, R) = (if s0 = 0 ∨ s0 = 1 then some (some (.int s0), (S, I, L, R)) else none) := r_rz d78_75 rt78
theorem e81 {t0 : Nat} {x1 : Int32} : hs_C scr d 81 [.ref t0, .int x1] h = hs_R scr d 81 0 [some (.ref t0), some (.int x1)] [] h := by rw [hs_C, mL81]; rfl
theorem b81_0 {t0 : Nat} {x1 : Int32}  : hs_R scr d 81 0 [some (.ref t0), some (.int x1)] [] (S, I, L, R) = hs_R scr d 81 (hs_swt x1 0 6 [44, 52, 57, 62, 67, 72, 77] 82) [some (.ref t0), some (.int x1)] [] (S, I, L, R) := Eq.trans (r_il_n d81_0 rfl) (r_tsw d81_1 rfl rfl rfl)
theorem b81_44 {t0 : Nat} {x1 : Int32} (o_t0 : ok4 S R t0) : hs_R scr d 81 44 [some (.ref t0), some (.int x1)] [] (S, I, L, R) = some (some (.int (I (t0 + 5) 4)), (S, I, L, R)) := Eq.trans (r_al_n d81_44 rfl) (Eq.trans (r_getRe d81_45 f81_21 o_t0.2.1 (o_t0.2.2.2.2.1) (Nat.le_trans o_t0.1 (Nat.le_add_right _ _))) (Eq.trans (r_getI d81_48 f81_51 (o_t0.2.2.2.2.2.1).2.1) (r_ri d81_51 rt81)))
theorem b81_52 {t0 : Nat} {x1 : Int32} (o_t0 : ok4 S R t0) : hs_R scr d 81 52 [some (.ref t0), some (.int x1)] [] (S, I, L, R) = some (some (.int (I t0 8)), (S, I, L, R)) := Eq.trans (r_al_n d81_52 rfl) (Eq.trans (r_getI d81_53 f81_52 o_t0.2.1) (r_ri d81_56 rt81))
theorem b81_57 {t0 : Nat} {x1 : Int32} (o_t0 : ok4 S R t0) : hs_R scr d 81 57 [some (.ref t0), some (.int x1)] [] (S, I, L, R) = some (some (.int (I t0 9)), (S, I, L, R)) := Eq.trans (r_al_n d81_57 rfl) (Eq.trans (r_getI d81_58 f81_55 o_t0.2.1) (r_ri d81_61 rt81))
theorem b81_62 {t0 : Nat} {x1 : Int32} (o_t0 : ok4 S R t0) : hs_R scr d 81 62 [some (.ref t0), some (.int x1)] [] (S, I, L, R) = some (some (.int (I t0 10)), (S, I, L, R)) := Eq.trans (r_al_n d81_62 rfl) (Eq.trans (r_getI d81_63 f81_58 o_t0.2.1) (r_ri d81_66 rt81))
theorem b81_67 {t0 : Nat} {x1 : Int32} (o_t0 : ok4 S R t0) : hs_R scr d 81 67 [some (.ref t0), some (.int x1)] [] (S, I, L, R) = some (some (.int (I t0 11)), (S, I, L, R)) := Eq.trans (r_al_n d81_67 rfl) (Eq.trans (r_getI d81_68 f81_61 o_t0.2.1) (r_ri d81_71 rt81))
theorem b81_72 {t0 : Nat} {x1 : Int32} (o_t0 : ok4 S R t0) : hs_R scr d 81 72 [some (.ref t0), some (.int x1)] [] (S, I, L, R) = some (some (.int (I t0 12)), (S, I, L, R)) := Eq.trans (r_al_n d81_72 rfl) (Eq.trans (r_getI d81_73 f81_64 o_t0.2.1) (r_ri d81_76 rt81))
theorem b81_77 {t0 : Nat} {x1 : Int32} (o_t0 : ok4 S R t0) : hs_R scr d 81 77 [some (.ref t0), some (.int x1)] [] (S, I, L, R) = some (some (.int (I t0 13)), (S, I, L, R)) := Eq.trans (r_al_n d81_77 rfl) (Eq.trans (r_getI d81_78 f81_67 o_t0.2.1) (r_ri d81_81 rt81))
theorem b81_82 {t0 : Nat} {x1 : Int32} (o_t0 : ok4 S R t0) : hs_R scr d 81 82 [some (.ref t0), some (.int x1)] [] (S, I, L, R) = some (some (.int (I t0 14)), (S, I, L, R)) := Eq.trans (r_al_n d81_82 rfl) (Eq.trans (r_getI d81_83 f81_70 o_t0.2.1) (r_ri d81_86 rt81))
theorem e82 {t0 : Nat} {x1 : Int32} : hs_C scr d 82 [.ref t0, .int x1] h = hs_R scr d 82 0 [some (.ref t0), some (.int x1)] [] h := by rw [hs_C, mL82]; rfl
theorem b82_0 {t0 : Nat} {x1 : Int32}  : hs_R scr d 82 0 [some (.ref t0), some (.int x1)] [] (S, I, L, R) = hs_R scr d 82 (hs_swt x1 8 14 [44, 49, 62, 70, 76, 85, 94] 102) [some (.ref t0), some (.int x1)] [] (S, I, L, R) := Eq.trans (r_il_n d82_0 rfl) (r_tsw d82_1 rfl rfl rfl)
theorem b82_44 {t0 : Nat} {x1 : Int32} (o_t0 : ok4 S R t0) : hs_R scr d 82 44 [some (.ref t0), some (.int x1)] [] (S, I, L, R) = some (some (.int (I t0 15)), (S, I, L, R)) := Eq.trans (r_al_n d82_44 rfl) (Eq.trans (r_getI d82_45 f82_73 o_t0.2.1) (r_ri d82_48 rt82))
theorem b82_49 {t0 : Nat} {x1 : Int32} (o_t0 : ok4 S R t0) : hs_R scr d 82 49 [some (.ref t0), some (.int x1)] [] (S, I, L, R) = (if (I t0 16) = 0 then hs_R scr d 82 61 [some (.ref t0), some (.int x1)] [.int 0] (S, I, L, R) else hs_R scr d 82 61 [some (.ref t0), some (.int x1)] [.int 1] (S, I, L, R)) := Eq.trans (r_al_n d82_49 rfl) (Eq.trans (r_getZ d82_50 f82_76 o_t0.2.1) (Eq.trans (r_zeq d82_53 rfl) (q_ite (Eq.trans (r_ic d82_60 kI_0) (rfl)) (Eq.trans (r_ic d82_56 kI_1) (Eq.trans (r_goto d82_57 rfl) (rfl))))))
theorem b82_61 {t0 : Nat} {x1 s0 : Int32}  : hs_R scr d 82 61 [some (.ref t0), some (.int x1)] [.int s0] (S, I, L, R) = some (some (.int s0), (S, I, L, R)) := r_ri d82_61 rt82
theorem b82_62 {t0 : Nat} {x1 : Int32} (o_t0 : ok4 S R t0) : hs_R scr (d + 1) 82 62 [some (.ref t0), some (.int x1)] [] (S, I, L, R) = ((hs_C scr d 83 [.ref (t0 + 5)] (S, I, L, R)).bind fun o => hs_R scr (d + 1) 82 69 [some (.ref t0), some (.int x1)] (o.1.toList ++ []) o.2) := Eq.trans (r_al_n d82_62 rfl) (Eq.trans (r_getRe d82_63 f82_21 o_t0.2.1 (o_t0.2.2.2.2.1) (Nat.le_trans o_t0.1 (Nat.le_add_right _ _))) (r_cvE (as := []) (r := []) d82_66 c82_96 ow83 (o_t0.2.2.2.2.2.1).2.1 np83.symm rfl (hs_fitE mL83 (Nat.le_of_ble_eq_true rfl))))
theorem b82_69 {t0 : Nat} {x1 s0 : Int32}  : hs_R scr d 82 69 [some (.ref t0), some (.int x1)] [.int s0] (S, I, L, R) = some (some (.int s0), (S, I, L, R)) := r_ri d82_69 rt82
theorem b82_70 {t0 : Nat} {x1 : Int32} (o_t0 : ok4 S R t0) : hs_R scr (d + 1) 82 70 [some (.ref t0), some (.int x1)] [] (S, I, L, R) = ((hs_C scr d 84 [.ref t0, .int 0] (S, I, L, R)).bind fun o => hs_R scr (d + 1) 82 75 [some (.ref t0), some (.int x1)] (o.1.toList ++ []) o.2) := Eq.trans (r_al_n d82_70 rfl) (Eq.trans (r_ic d82_71 kI_0) (r_cvE (as := [.int 0]) (r := []) d82_72 c82_100 ow84 o_t0.2.1 np84.symm rfl (hs_fitE mL84 (Nat.le_of_ble_eq_true rfl))))
theorem b82_75 {t0 : Nat} {x1 s0 : Int32}  : hs_R scr d 82 75 [some (.ref t0), some (.int x1)] [.int s0] (S, I, L, R) = some (some (.int s0), (S, I, L, R)) := r_ri d82_75 rt82
theorem b82_76 {t0 : Nat} {x1 : Int32} (o_t0 : ok4 S R t0) : hs_R scr (d + 1) 82 76 [some (.ref t0), some (.int x1)] [] (S, I, L, R) = ((hs_C scr d 85 [.ref (t0 + 5), .int 2] (S, I, L, R)).bind fun o => hs_R scr (d + 1) 82 84 [some (.ref t0), some (.int x1)] (o.1.toList ++ []) o.2) := Eq.trans (r_al_n d82_76 rfl) (Eq.trans (r_getRe d82_77 f82_21 o_t0.2.1 (o_t0.2.2.2.2.1) (Nat.le_trans o_t0.1 (Nat.le_add_right _ _))) (Eq.trans (r_ic d82_80 kI_2) (r_cvE (as := [.int 2]) (r := []) d82_81 c82_104 ow85 (o_t0.2.2.2.2.2.1).2.1 np85.symm rfl (hs_fitE mL85 (Nat.le_of_ble_eq_true rfl)))))
theorem b82_84 {t0 : Nat} {x1 s0 : Int32}  : hs_R scr d 82 84 [some (.ref t0), some (.int x1)] [.int s0] (S, I, L, R) = some (some (.int s0), (S, I, L, R)) := r_ri d82_84 rt82
theorem b82_85 {t0 : Nat} {x1 : Int32} (o_t0 : ok4 S R t0) : hs_R scr (d + 1) 82 85 [some (.ref t0), some (.int x1)] [] (S, I, L, R) = ((hs_C scr d 85 [.ref (t0 + 5), .int 0] (S, I, L, R)).bind fun o => hs_R scr (d + 1) 82 93 [some (.ref t0), some (.int x1)] (o.1.toList ++ []) o.2) := Eq.trans (r_al_n d82_85 rfl) (Eq.trans (r_getRe d82_86 f82_21 o_t0.2.1 (o_t0.2.2.2.2.1) (Nat.le_trans o_t0.1 (Nat.le_add_right _ _))) (Eq.trans (r_ic d82_89 kI_0) (r_cvE (as := [.int 0]) (r := []) d82_90 c82_104 ow85 (o_t0.2.2.2.2.2.1).2.1 np85.symm rfl (hs_fitE mL85 (Nat.le_of_ble_eq_true rfl)))))
theorem b82_93 {t0 : Nat} {x1 s0 : Int32}  : hs_R scr d 82 93 [some (.ref t0), some (.int x1)] [.int s0] (S, I, L, R) = some (some (.int s0), (S, I, L, R)) := r_ri d82_93 rt82
theorem b82_94 {t0 : Nat} {x1 : Int32} (o_t0 : ok4 S R t0) : hs_R scr (d + 1) 82 94 [some (.ref t0), some (.int x1)] [] (S, I, L, R) = ((hs_C scr d 86 [.ref (t0 + 5)] (S, I, L, R)).bind fun o => hs_R scr (d + 1) 82 101 [some (.ref t0), some (.int x1)] (o.1.toList ++ []) o.2) := Eq.trans (r_al_n d82_94 rfl) (Eq.trans (r_getRe d82_95 f82_21 o_t0.2.1 (o_t0.2.2.2.2.1) (Nat.le_trans o_t0.1 (Nat.le_add_right _ _))) (r_cvE (as := []) (r := []) d82_98 c82_107 ow86 (o_t0.2.2.2.2.2.1).2.1 np86.symm rfl (hs_fitE mL86 (Nat.le_of_ble_eq_true rfl))))
theorem b82_101 {t0 : Nat} {x1 s0 : Int32}  : hs_R scr d 82 101 [some (.ref t0), some (.int x1)] [.int s0] (S, I, L, R) = some (some (.int s0), (S, I, L, R)) := r_ri d82_101 rt82
theorem b82_102 {t0 : Nat} {x1 : Int32} (o_t0 : ok4 S R t0) : hs_R scr (d + 1) 82 102 [some (.ref t0), some (.int x1)] [] (S, I, L, R) = ((hs_C scr d 87 [.ref t0] (S, I, L, R)).bind fun o => hs_R scr (d + 1) 82 106 [some (.ref t0), some (.int x1)] (o.1.toList ++ []) o.2) := Eq.trans (r_al_n d82_102 rfl) (r_cvE (as := []) (r := []) d82_103 c82_110 ow87 o_t0.2.1 np87.symm rfl (hs_fitE mL87 (Nat.le_of_ble_eq_true rfl)))
theorem b82_106 {t0 : Nat} {x1 s0 : Int32}  : hs_R scr d 82 106 [some (.ref t0), some (.int x1)] [.int s0] (S, I, L, R) = some (some (.int s0), (S, I, L, R)) := r_ri d82_106 rt82
theorem e83 {t0 : Nat} : hs_C scr d 83 [.ref t0] h = hs_R scr d 83 0 [some (.ref t0), none, none] [] h := by rw [hs_C, mL83]; rfl
theorem b83_0 {t0 : Nat}  : hs_R scr d 83 0 [some (.ref t0), none, none] [] (S, I, L, R) = hs_R scr d 83 4 [some (.ref t0), some (.int 0), some (.int 0)] [] (S, I, L, R) := Eq.trans (r_ic d83_0 kI_0) (Eq.trans (r_is_n (loc' := [some (.ref t0), some (.int 0), none]) d83_1 rfl) (Eq.trans (r_ic d83_2 kI_0) (Eq.trans (r_is_n (loc' := [some (.ref t0), some (.int 0), some (.int 0)]) d83_3 rfl) (rfl))))
theorem b83_4 {t0 : Nat} {x1 x2 : Int32} (o_t0 : ok1 S R t0) : hs_R scr d 83 4 [some (.ref t0), some (.int x1), some (.int x2)] [] (S, I, L, R) = (if (I t0 4) ≤ x2 then some (some (.int x1), (S, I, L, R)) else (if hs_ib x2 8 = true then (if (I (t0 + 4) (Int32.toNatClampNeg x2)) ≤ 0 then hs_R scr d 83 27 [some (.ref t0), some (.int x1), some (.int x2)] [] (S, I, L, R) else hs_R scr d 83 27 [some (.ref t0), some (.int (x1 ||| ((1 : Int32) <<< (x2 &&& 31)))), some (.int x2)] [] (S, I, L, R)) else none)) := Eq.trans (r_il_n d83_4 rfl) (Eq.trans (r_al_n d83_5 rfl) (Eq.trans (r_getI d83_6 f83_24 o_t0.2.1) (Eq.trans (r_cge d83_9 rfl) (q_ite (Eq.trans (r_il_n d83_33 rfl) (r_ri d83_34 rt83)) (Eq.trans (r_al_n d83_12 rfl) (Eq.trans (r_getRe d83_13 f83_21 o_t0.2.1 (o_t0.2.2.2.2.2.2.2.2.1) (Nat.le_trans o_t0.1 (Nat.le_add_right _ _))) (Eq.trans (r_il_n d83_16 rfl) (Eq.trans (r_iald d83_17 (o_t0.2.2.2.2.2.2.2.2.2)) (q_ite (Eq.trans (r_zle d83_18 rfl) (q_ite (rfl) (Eq.trans (r_il_n d83_21 rfl) (Eq.trans (r_ic d83_22 kI_1) (Eq.trans (r_il_n d83_23 rfl) (Eq.trans (r_ishl d83_24) (Eq.trans (r_ior d83_25) (Eq.trans (r_is_n (loc' := [some (.ref t0), some (.int (x1 ||| ((1 : Int32) <<< (x2 &&& 31)))), some (.int x2)]) d83_26 rfl) (rfl))))))))) rfl)))))))))
theorem b83_27 {t0 : Nat} {x1 x2 : Int32}  : hs_R scr d 83 27 [some (.ref t0), some (.int x1), some (.int x2)] [] (S, I, L, R) = hs_R scr d 83 4 [some (.ref t0), some (.int x1), some (.int (x2 + 1))] [] (S, I, L, R) := Eq.trans (r_inc (loc' := [some (.ref t0), some (.int x1), some (.int (x2 + 1))]) d83_27 kI_1 rfl rfl) (Eq.trans (r_goto d83_30 rfl) (rfl))
theorem e84 {t0 : Nat} {x1 : Int32} : hs_C scr d 84 [.ref t0, .int x1] h = hs_R scr d 84 0 [some (.ref t0), some (.int x1), none, none, none] [] h := by rw [hs_C, mL84]; rfl
theorem b84_0 {t0 : Nat} {x1 : Int32} (o_t0 : ok4 S R t0) : hs_R scr d 84 0 [some (.ref t0), some (.int x1), none, none, none] [] (S, I, L, R) = (if (I t0 14) ≤ 0 then hs_R scr d 84 22 [some (.ref t0), some (.int x1), none, none, none] [.int 0] (S, I, L, R) else (if (I t0 14) = 0 then none else hs_R scr d 84 22 [some (.ref t0), some (.int x1), none, none, none] [.int (((I t0 15) + x1) / (I t0 14))] (S, I, L, R))) := Eq.trans (r_al_n d84_0 rfl) (Eq.trans (r_getI d84_1 f84_70 o_t0.2.1) (Eq.trans (r_zle d84_4 rfl) (q_ite (Eq.trans (r_ic d84_21 kI_0) (rfl)) (Eq.trans (r_al_n d84_7 rfl) (Eq.trans (r_getI d84_8 f84_73 o_t0.2.1) (Eq.trans (r_il_n d84_11 rfl) (Eq.trans (r_iadd d84_12) (Eq.trans (r_al_n d84_13 rfl) (Eq.trans (r_getI d84_14 f84_70 o_t0.2.1) (Eq.trans (r_idiv d84_17) (q_ite rfl (Eq.trans (r_goto d84_18 rfl) (rfl)))))))))))))
theorem b84_22 {t0 : Nat} {x1 s0 : Int32}  : hs_R scr d 84 22 [some (.ref t0), some (.int x1), none, none, none] [.int s0] (S, I, L, R) = hs_R scr d 84 28 [some (.ref t0), some (.int x1), some (.int s0), some (.int 0), some (.int 0)] [] (S, I, L, R) := Eq.trans (r_is_n (loc' := [some (.ref t0), some (.int x1), some (.int s0), none, none]) d84_22 rfl) (Eq.trans (r_ic d84_23 kI_0) (Eq.trans (r_is_n (loc' := [some (.ref t0), some (.int x1), some (.int s0), some (.int 0), none]) d84_24 rfl) (Eq.trans (r_ic d84_25 kI_0) (Eq.trans (r_is (loc' := [some (.ref t0), some (.int x1), some (.int s0), some (.int 0), some (.int 0)]) d84_26 rfl) (rfl)))))
theorem b84_28 {t0 : Nat} {x1 x2 x3 x4 : Int32} (o_t0 : ok4 S R t0) : hs_R scr d 84 28 [some (.ref t0), some (.int x1), some (.int x2), some (.int x3), some (.int x4)] [] (S, I, L, R) = (if (I (t0 + 5) 4) ≤ x4 then some (some (.int x3), (S, I, L, R)) else (if x2 ≤ (if (((I (t0 + 5) 4) - 1) - x4) < x4 then (((I (t0 + 5) 4) - 1) - x4) else x4) then hs_R scr d 84 68 [some (.ref t0), some (.int x1), some (.int x2), some (.int x3), some (.int x4)] [] (S, I, L, R) else hs_R scr d 84 68 [some (.ref t0), some (.int x1), some (.int x2), some (.int (x3 ||| ((1 : Int32) <<< (x4 &&& 31)))), some (.int x4)] [] (S, I, L, R))) := Eq.trans (r_il d84_28 rfl) (Eq.trans (r_al_n d84_30 rfl) (Eq.trans (r_getRe d84_31 f84_21 o_t0.2.1 (o_t0.2.2.2.2.1) (Nat.le_trans o_t0.1 (Nat.le_add_right _ _))) (Eq.trans (r_getI d84_34 f84_51 (o_t0.2.2.2.2.2.1).2.1) (Eq.trans (r_cge d84_37 rfl) (q_ite (Eq.trans (r_il_n d84_74 rfl) (r_ri d84_75 rt84)) (Eq.trans (r_il d84_40 rfl) (Eq.trans (r_al_n d84_42 rfl) (Eq.trans (r_getRe d84_43 f84_21 o_t0.2.1 (o_t0.2.2.2.2.1) (Nat.le_trans o_t0.1 (Nat.le_add_right _ _))) (Eq.trans (r_getI d84_46 f84_51 (o_t0.2.2.2.2.2.1).2.1) (Eq.trans (r_ic d84_49 kI_1) (Eq.trans (r_isub d84_50) (Eq.trans (r_il d84_51 rfl) (Eq.trans (r_isub d84_53) (Eq.trans (r_min d84_54 c84_141 rfl) (Eq.trans (r_il_n d84_57 rfl) (Eq.trans (r_cge d84_58 rfl) (q_ite (rfl) (Eq.trans (r_il_n d84_61 rfl) (Eq.trans (r_ic d84_62 kI_1) (Eq.trans (r_il d84_63 rfl) (Eq.trans (r_ishl d84_65) (Eq.trans (r_ior d84_66) (Eq.trans (r_is_n (loc' := [some (.ref t0), some (.int x1), some (.int x2), some (.int (x3 ||| ((1 : Int32) <<< (x4 &&& 31)))), some (.int x4)]) d84_67 rfl) (rfl))))))))))))))))))))))))
theorem b84_68 {t0 : Nat} {x1 x2 x3 x4 : Int32}  : hs_R scr d 84 68 [some (.ref t0), some (.int x1), some (.int x2), some (.int x3), some (.int x4)] [] (S, I, L, R) = hs_R scr d 84 28 [some (.ref t0), some (.int x1), some (.int x2), some (.int x3), some (.int (x4 + 1))] [] (S, I, L, R) := Eq.trans (r_inc (loc' := [some (.ref t0), some (.int x1), some (.int x2), some (.int x3), some (.int (x4 + 1))]) d84_68 kI_1 rfl rfl) (Eq.trans (r_goto d84_71 rfl) (rfl))
end BB

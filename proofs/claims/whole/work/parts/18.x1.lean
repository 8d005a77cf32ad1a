/-! blocks: written by gen/mkblocks.py -/
theorem c100_132 : hs_cal (hs_own 100) 132 = some (0, 101) := by decide +kernel
theorem c100_144 : hs_cal (hs_own 100) 144 = some (0, 102) := by decide +kernel
theorem c102_34 : hs_cal (hs_own 102) 34 = some (6, 0) := by decide +kernel
theorem c102_40 : hs_cal (hs_own 102) 40 = some (7, 0) := by decide +kernel
theorem c102_43 : hs_cal (hs_own 102) 43 = some (0, 103) := by decide +kernel
theorem c103_34 : hs_cal (hs_own 103) 34 = some (6, 0) := by decide +kernel
theorem c103_40 : hs_cal (hs_own 103) 40 = some (7, 0) := by decide +kernel
theorem c112_148 : hs_cal (hs_own 112) 148 = some (8, 0) := by decide +kernel
theorem c121_113 : hs_cal (hs_own 121) 113 = some (0, 96) := by decide +kernel
theorem c121_117 : hs_cal (hs_own 121) 117 = some (0, 103) := by decide +kernel
theorem c126_113 : hs_cal (hs_own 126) 113 = some (0, 96) := by decide +kernel
theorem c126_124 : hs_cal (hs_own 126) 124 = some (6, 0) := by decide +kernel
theorem c128_47 : hs_cal (hs_own 128) 47 = some (0, 129) := by decide +kernel
theorem c129_34 : hs_cal (hs_own 129) 34 = some (6, 0) := by decide +kernel
theorem c129_40 : hs_cal (hs_own 129) 40 = some (7, 0) := by decide +kernel
theorem c132_138 : hs_cal (hs_own 132) 138 = some (0, 133) := by decide +kernel
theorem c132_141 : hs_cal (hs_own 132) 141 = some (7, 0) := by decide +kernel
theorem c133_132 : hs_cal (hs_own 133) 132 = some (0, 101) := by decide +kernel
theorem c137_43 : hs_cal (hs_own 137) 43 = some (0, 103) := by decide +kernel
theorem c157_34 : hs_cal (hs_own 157) 34 = some (0, 132) := by decide +kernel
theorem c158_38 : hs_cal (hs_own 158) 38 = some (0, 159) := by decide +kernel
theorem c158_42 : hs_cal (hs_own 158) 42 = some (0, 161) := by decide +kernel
theorem c159_52 : hs_cal (hs_own 159) 52 = some (0, 160) := by decide +kernel
theorem c161_42 : hs_cal (hs_own 161) 42 = some (0, 161) := by decide +kernel
theorem c161_48 : hs_cal (hs_own 161) 48 = some (0, 162) := by decide +kernel
theorem c161_56 : hs_cal (hs_own 161) 56 = some (6, 0) := by decide +kernel
theorem c161_61 : hs_cal (hs_own 161) 61 = some (7, 0) := by decide +kernel
theorem c162_42 : hs_cal (hs_own 162) 42 = some (0, 161) := by decide +kernel
theorem c162_52 : hs_cal (hs_own 162) 52 = some (0, 160) := by decide +kernel
theorem c162_61 : hs_cal (hs_own 162) 61 = some (7, 0) := by decide +kernel
theorem c162_64 : hs_cal (hs_own 162) 64 = some (0, 133) := by decide +kernel
theorem c164_38 : hs_cal (hs_own 164) 38 = some (0, 159) := by decide +kernel
theorem c164_45 : hs_cal (hs_own 164) 45 = some (0, 158) := by decide +kernel
theorem c164_48 : hs_cal (hs_own 164) 48 = some (0, 162) := by decide +kernel
theorem c166_113 : hs_cal (hs_own 166) 113 = some (0, 96) := by decide +kernel
theorem c172_54 : hs_cal (hs_own 172) 54 = some (0, 173) := by decide +kernel
theorem c172_58 : hs_cal (hs_own 172) 58 = some (0, 174) := by decide +kernel
theorem c172_62 : hs_cal (hs_own 172) 62 = some (0, 180) := by decide +kernel
theorem c174_98 : hs_cal (hs_own 174) 98 = some (0, 175) := by decide +kernel
theorem c174_101 : hs_cal (hs_own 174) 101 = some (0, 105) := by decide +kernel
theorem c174_108 : hs_cal (hs_own 174) 108 = some (0, 176) := by decide +kernel
theorem c174_111 : hs_cal (hs_own 174) 111 = some (0, 177) := by decide +kernel
theorem c174_114 : hs_cal (hs_own 174) 114 = some (0, 114) := by decide +kernel
theorem c174_118 : hs_cal (hs_own 174) 118 = some (0, 178) := by decide +kernel
theorem c175_121 : hs_cal (hs_own 175) 121 = some (0, 100) := by decide +kernel
theorem c176_124 : hs_cal (hs_own 176) 124 = some (0, 110) := by decide +kernel
theorem c177_108 : hs_cal (hs_own 177) 108 = some (0, 176) := by decide +kernel
theorem c177_128 : hs_cal (hs_own 177) 128 = some (0, 112) := by decide +kernel
theorem c178_134 : hs_cal (hs_own 178) 134 = some (0, 179) := by decide +kernel
theorem c180_68 : hs_cal (hs_own 180) 68 = some (0, 181) := by decide +kernel
theorem c181_80 : hs_cal (hs_own 181) 80 = some (0, 121) := by decide +kernel
theorem c185_83 : hs_cal (hs_own 185) 83 = some (0, 186) := by decide +kernel
theorem c185_87 : hs_cal (hs_own 185) 87 = some (0, 187) := by decide +kernel
theorem c185_90 : hs_cal (hs_own 185) 90 = some (5, 0) := by decide +kernel
theorem c186_26 : hs_cal (hs_own 186) 26 = some (5, 0) := by decide +kernel
theorem c187_28 : hs_cal (hs_own 187) 28 = some (5, 0) := by decide +kernel
theorem c189_38 : hs_cal (hs_own 189) 38 = some (5, 0) := by decide +kernel
theorem c8_179_140 : ¬ (hs_own 179 = 8 ∧ 140 = hs_sk) := by decide +kernel
theorem ci139_265 : hs_kI (hs_own 139) 265 = some 1431655765 := by decide +kernel
theorem ci139_266 : hs_kI (hs_own 139) 266 = some 858993459 := by decide +kernel
theorem ci139_267 : hs_kI (hs_own 139) 267 = some 252645135 := by decide +kernel
theorem ci179_140 : hs_kI (hs_own 179) 140 = some 65536 := by decide +kernel
theorem cl150_30 : hs_kL (hs_own 150) 30 = some 200 := by decide +kernel
theorem cl150_32 : hs_kL (hs_own 150) 32 = some 99 := by decide +kernel
theorem d85_0 : decode (hs_code 85) 0 = .ok (.iconst 0, 1) := by decide +kernel
theorem d85_1 : decode (hs_code 85) 1 = .ok (.istore_n 2, 1) := by decide +kernel
theorem d85_2 : decode (hs_code 85) 2 = .ok (.iconst 0, 1) := by decide +kernel
theorem d85_3 : decode (hs_code 85) 3 = .ok (.istore_n 3, 1) := by decide +kernel
theorem d85_4 : decode (hs_code 85) 4 = .ok (.iload_n 3, 1) := by decide +kernel
theorem d85_5 : decode (hs_code 85) 5 = .ok (.aload_n 0, 1) := by decide +kernel
theorem d85_6 : decode (hs_code 85) 6 = .ok (.getfield 24, 3) := by decide +kernel
theorem d85_9 : decode (hs_code 85) 9 = .ok (.if_icmp .ge 25, 3) := by decide +kernel
theorem d85_12 : decode (hs_code 85) 12 = .ok (.aload_n 0, 1) := by decide +kernel
theorem d85_13 : decode (hs_code 85) 13 = .ok (.getfield 18, 3) := by decide +kernel
theorem d85_16 : decode (hs_code 85) 16 = .ok (.iload_n 3, 1) := by decide +kernel
theorem d85_17 : decode (hs_code 85) 17 = .ok (.iaload, 1) := by decide +kernel
theorem d85_18 : decode (hs_code 85) 18 = .ok (.iload_n 1, 1) := by decide +kernel
theorem d85_19 : decode (hs_code 85) 19 = .ok (.if_icmp .ne 9, 3) := by decide +kernel
theorem d85_22 : decode (hs_code 85) 22 = .ok (.iload_n 2, 1) := by decide +kernel
theorem d85_23 : decode (hs_code 85) 23 = .ok (.iconst 1, 1) := by decide +kernel
theorem d85_24 : decode (hs_code 85) 24 = .ok (.iload_n 3, 1) := by decide +kernel
theorem d85_25 : decode (hs_code 85) 25 = .ok (.ishl, 1) := by decide +kernel
theorem d85_26 : decode (hs_code 85) 26 = .ok (.ior, 1) := by decide +kernel
theorem d85_27 : decode (hs_code 85) 27 = .ok (.istore_n 2, 1) := by decide +kernel
theorem d85_28 : decode (hs_code 85) 28 = .ok (.iinc 3 1, 3) := by decide +kernel
theorem d85_31 : decode (hs_code 85) 31 = .ok (.goto (-27), 3) := by decide +kernel
theorem d85_34 : decode (hs_code 85) 34 = .ok (.iload_n 2, 1) := by decide +kernel
theorem d85_35 : decode (hs_code 85) 35 = .ok (.ireturn, 1) := by decide +kernel
theorem d86_0 : decode (hs_code 86) 0 = .ok (.iconst 0, 1) := by decide +kernel
theorem d86_1 : decode (hs_code 86) 1 = .ok (.istore_n 1, 1) := by decide +kernel
theorem d86_2 : decode (hs_code 86) 2 = .ok (.iconst 0, 1) := by decide +kernel
theorem d86_3 : decode (hs_code 86) 3 = .ok (.istore_n 2, 1) := by decide +kernel
theorem d86_4 : decode (hs_code 86) 4 = .ok (.iload_n 2, 1) := by decide +kernel
theorem d86_5 : decode (hs_code 86) 5 = .ok (.aload_n 0, 1) := by decide +kernel
theorem d86_6 : decode (hs_code 86) 6 = .ok (.getfield 24, 3) := by decide +kernel
theorem d86_9 : decode (hs_code 86) 9 = .ok (.if_icmp .ge 18, 3) := by decide +kernel
theorem d86_12 : decode (hs_code 86) 12 = .ok (.iload_n 1, 1) := by decide +kernel
theorem d86_13 : decode (hs_code 86) 13 = .ok (.aload_n 0, 1) := by decide +kernel
theorem d86_14 : decode (hs_code 86) 14 = .ok (.getfield 9, 3) := by decide +kernel
theorem d86_17 : decode (hs_code 86) 17 = .ok (.iload_n 2, 1) := by decide +kernel
theorem d86_18 : decode (hs_code 86) 18 = .ok (.iaload, 1) := by decide +kernel
theorem d86_19 : decode (hs_code 86) 19 = .ok (.iadd, 1) := by decide +kernel
theorem d86_20 : decode (hs_code 86) 20 = .ok (.istore_n 1, 1) := by decide +kernel
theorem d86_21 : decode (hs_code 86) 21 = .ok (.iinc 2 1, 3) := by decide +kernel
theorem d86_24 : decode (hs_code 86) 24 = .ok (.goto (-20), 3) := by decide +kernel
theorem d86_27 : decode (hs_code 86) 27 = .ok (.iload_n 1, 1) := by decide +kernel
theorem d86_28 : decode (hs_code 86) 28 = .ok (.ireturn, 1) := by decide +kernel
theorem d87_0 : decode (hs_code 87) 0 = .ok (.iconst 0, 1) := by decide +kernel
theorem d87_1 : decode (hs_code 87) 1 = .ok (.istore_n 1, 1) := by decide +kernel
theorem d87_2 : decode (hs_code 87) 2 = .ok (.iconst 0, 1) := by decide +kernel
theorem d87_3 : decode (hs_code 87) 3 = .ok (.istore_n 2, 1) := by decide +kernel
theorem d87_4 : decode (hs_code 87) 4 = .ok (.iload_n 2, 1) := by decide +kernel
theorem d87_5 : decode (hs_code 87) 5 = .ok (.aload_n 0, 1) := by decide +kernel
theorem d87_6 : decode (hs_code 87) 6 = .ok (.getfield 52, 3) := by decide +kernel
theorem d87_9 : decode (hs_code 87) 9 = .ok (.if_icmp .ge 18, 3) := by decide +kernel
theorem d87_12 : decode (hs_code 87) 12 = .ok (.iload_n 1, 1) := by decide +kernel
theorem d87_13 : decode (hs_code 87) 13 = .ok (.aload_n 0, 1) := by decide +kernel
theorem d87_14 : decode (hs_code 87) 14 = .ok (.getfield 25, 3) := by decide +kernel
theorem d87_17 : decode (hs_code 87) 17 = .ok (.iload_n 2, 1) := by decide +kernel
theorem d87_18 : decode (hs_code 87) 18 = .ok (.iaload, 1) := by decide +kernel
theorem d87_19 : decode (hs_code 87) 19 = .ok (.iadd, 1) := by decide +kernel
theorem d87_20 : decode (hs_code 87) 20 = .ok (.istore_n 1, 1) := by decide +kernel
theorem d87_21 : decode (hs_code 87) 21 = .ok (.iinc 2 1, 3) := by decide +kernel
theorem d87_24 : decode (hs_code 87) 24 = .ok (.goto (-20), 3) := by decide +kernel
theorem d87_27 : decode (hs_code 87) 27 = .ok (.iload_n 1, 1) := by decide +kernel
theorem d87_28 : decode (hs_code 87) 28 = .ok (.ireturn, 1) := by decide +kernel
theorem d96_0 : decode (hs_code 96) 0 = .ok (.aload_n 0, 1) := by decide +kernel
theorem d96_1 : decode (hs_code 96) 1 = .ok (.getfield 35, 3) := by decide +kernel
theorem d96_4 : decode (hs_code 96) 4 = .ok (.iload_n 1, 1) := by decide +kernel
theorem d96_5 : decode (hs_code 96) 5 = .ok (.bipush 8, 2) := by decide +kernel
theorem d96_7 : decode (hs_code 96) 7 = .ok (.imul, 1) := by decide +kernel
theorem d96_8 : decode (hs_code 96) 8 = .ok (.iload_n 2, 1) := by decide +kernel
theorem d96_9 : decode (hs_code 96) 9 = .ok (.iadd, 1) := by decide +kernel
theorem d96_10 : decode (hs_code 96) 10 = .ok (.iaload, 1) := by decide +kernel
theorem d96_11 : decode (hs_code 96) 11 = .ok (.ireturn, 1) := by decide +kernel
theorem d100_0 : decode (hs_code 100) 0 = .ok (.iload_n 1, 1) := by decide +kernel
theorem d100_1 : decode (hs_code 100) 1 = .ok (.sipush 9999, 3) := by decide +kernel
theorem d100_4 : decode (hs_code 100) 4 = .ok (.aload_n 0, 1) := by decide +kernel
theorem d100_5 : decode (hs_code 100) 5 = .ok (.getfield 73, 3) := by decide +kernel
theorem d100_8 : decode (hs_code 100) 8 = .ok (.isub, 1) := by decide +kernel
theorem d100_9 : decode (hs_code 100) 9 = .ok (.if_icmp .le 5, 3) := by decide +kernel
theorem d100_12 : decode (hs_code 100) 12 = .ok (.iconst 0, 1) := by decide +kernel
theorem d100_13 : decode (hs_code 100) 13 = .ok (.ireturn, 1) := by decide +kernel
theorem d100_14 : decode (hs_code 100) 14 = .ok (.aload_n 0, 1) := by decide +kernel
theorem d100_15 : decode (hs_code 100) 15 = .ok (.getfield 21, 3) := by decide +kernel
theorem d100_18 : decode (hs_code 100) 18 = .ok (.iload_n 1, 1) := by decide +kernel
theorem d100_19 : decode (hs_code 100) 19 = .ok (.aload_n 0, 1) := by decide +kernel
theorem d100_20 : decode (hs_code 100) 20 = .ok (.invokevirtual 132, 3) := by decide +kernel
theorem d100_23 : decode (hs_code 100) 23 = .ok (.aload_n 0, 1) := by decide +kernel
theorem d100_24 : decode (hs_code 100) 24 = .ok (.getfield 76, 3) := by decide +kernel
theorem d100_27 : decode (hs_code 100) 27 = .ok (.invokevirtual 144, 3) := by decide +kernel
theorem d100_30 : decode (hs_code 100) 30 = .ok (.aload_n 0, 1) := by decide +kernel
theorem d100_31 : decode (hs_code 100) 31 = .ok (.dup, 1) := by decide +kernel
theorem d100_32 : decode (hs_code 100) 32 = .ok (.getfield 73, 3) := by decide +kernel
theorem d100_35 : decode (hs_code 100) 35 = .ok (.iload_n 1, 1) := by decide +kernel
theorem d100_36 : decode (hs_code 100) 36 = .ok (.iadd, 1) := by decide +kernel
theorem d100_37 : decode (hs_code 100) 37 = .ok (.putfield 73, 3) := by decide +kernel
theorem d100_40 : decode (hs_code 100) 40 = .ok (.iconst 1, 1) := by decide +kernel
theorem d100_41 : decode (hs_code 100) 41 = .ok (.ireturn, 1) := by decide +kernel
theorem d101_0 : decode (hs_code 101) 0 = .ok (.aload_n 0, 1) := by decide +kernel
theorem d101_1 : decode (hs_code 101) 1 = .ok (.getfield 80, 3) := by decide +kernel
theorem d101_4 : decode (hs_code 101) 4 = .ok (.ifCond .lt 26, 3) := by decide +kernel
theorem d101_7 : decode (hs_code 101) 7 = .ok (.aload_n 0, 1) := by decide +kernel
theorem d101_8 : decode (hs_code 101) 8 = .ok (.getfield 80, 3) := by decide +kernel
theorem d101_11 : decode (hs_code 101) 11 = .ok (.aload_n 0, 1) := by decide +kernel
theorem d101_12 : decode (hs_code 101) 12 = .ok (.getfield 55, 3) := by decide +kernel
theorem d101_15 : decode (hs_code 101) 15 = .ok (.if_icmp .ge 15, 3) := by decide +kernel
theorem d101_18 : decode (hs_code 101) 18 = .ok (.aload_n 0, 1) := by decide +kernel
theorem d101_19 : decode (hs_code 101) 19 = .ok (.getfield 32, 3) := by decide +kernel
theorem d101_22 : decode (hs_code 101) 22 = .ok (.aload_n 0, 1) := by decide +kernel
theorem d101_23 : decode (hs_code 101) 23 = .ok (.getfield 80, 3) := by decide +kernel
theorem d101_26 : decode (hs_code 101) 26 = .ok (.iaload, 1) := by decide +kernel
theorem d101_27 : decode (hs_code 101) 27 = .ok (.goto 4, 3) := by decide +kernel
theorem d101_30 : decode (hs_code 101) 30 = .ok (.iconst 0, 1) := by decide +kernel
theorem d101_31 : decode (hs_code 101) 31 = .ok (.ireturn, 1) := by decide +kernel
theorem d102_0 : decode (hs_code 102) 0 = .ok (.iconst 0, 1) := by decide +kernel
theorem d102_1 : decode (hs_code 102) 1 = .ok (.istore 4, 2) := by decide +kernel
theorem d102_3 : decode (hs_code 102) 3 = .ok (.iload 4, 2) := by decide +kernel
theorem d102_5 : decode (hs_code 102) 5 = .ok (.aload_n 0, 1) := by decide +kernel
theorem d102_6 : decode (hs_code 102) 6 = .ok (.getfield 24, 3) := by decide +kernel
theorem d102_9 : decode (hs_code 102) 9 = .ok (.if_icmp .ge 75, 3) := by decide +kernel
theorem d102_12 : decode (hs_code 102) 12 = .ok (.aload_n 0, 1) := by decide +kernel
theorem d102_13 : decode (hs_code 102) 13 = .ok (.getfield 9, 3) := by decide +kernel
theorem d102_16 : decode (hs_code 102) 16 = .ok (.iload 4, 2) := by decide +kernel
theorem d102_18 : decode (hs_code 102) 18 = .ok (.bipush 99, 2) := by decide +kernel
theorem d102_20 : decode (hs_code 102) 20 = .ok (.aload_n 0, 1) := by decide +kernel
theorem d102_21 : decode (hs_code 102) 21 = .ok (.getfield 9, 3) := by decide +kernel
theorem d102_24 : decode (hs_code 102) 24 = .ok (.iload 4, 2) := by decide +kernel
theorem d102_26 : decode (hs_code 102) 26 = .ok (.iaload, 1) := by decide +kernel
theorem d102_27 : decode (hs_code 102) 27 = .ok (.iload_n 1, 1) := by decide +kernel
theorem d102_28 : decode (hs_code 102) 28 = .ok (.aload_n 0, 1) := by decide +kernel
theorem d102_29 : decode (hs_code 102) 29 = .ok (.getfield 15, 3) := by decide +kernel
theorem d102_32 : decode (hs_code 102) 32 = .ok (.iload 4, 2) := by decide +kernel
theorem d102_34 : decode (hs_code 102) 34 = .ok (.iaload, 1) := by decide +kernel
theorem d102_35 : decode (hs_code 102) 35 = .ok (.iload_n 2, 1) := by decide +kernel
theorem d102_36 : decode (hs_code 102) 36 = .ok (.iadd, 1) := by decide +kernel
theorem d102_37 : decode (hs_code 102) 37 = .ok (.imul, 1) := by decide +kernel
theorem d102_38 : decode (hs_code 102) 38 = .ok (.iadd, 1) := by decide +kernel
theorem d102_39 : decode (hs_code 102) 39 = .ok (.invokestatic 40, 3) := by decide +kernel
theorem d102_42 : decode (hs_code 102) 42 = .ok (.iastore, 1) := by decide +kernel
theorem d102_43 : decode (hs_code 102) 43 = .ok (.aload_n 0, 1) := by decide +kernel
theorem d102_44 : decode (hs_code 102) 44 = .ok (.getfield 18, 3) := by decide +kernel
theorem d102_47 : decode (hs_code 102) 47 = .ok (.iload 4, 2) := by decide +kernel
theorem d102_49 : decode (hs_code 102) 49 = .ok (.aload_n 0, 1) := by decide +kernel
theorem d102_50 : decode (hs_code 102) 50 = .ok (.iload 4, 2) := by decide +kernel
theorem d102_52 : decode (hs_code 102) 52 = .ok (.iload_n 1, 1) := by decide +kernel
theorem d102_53 : decode (hs_code 102) 53 = .ok (.iload_n 3, 1) := by decide +kernel
theorem d102_54 : decode (hs_code 102) 54 = .ok (.invokevirtual 43, 3) := by decide +kernel
theorem d102_57 : decode (hs_code 102) 57 = .ok (.iastore, 1) := by decide +kernel
theorem d102_58 : decode (hs_code 102) 58 = .ok (.aload_n 0, 1) := by decide +kernel
theorem d102_59 : decode (hs_code 102) 59 = .ok (.getfield 21, 3) := by decide +kernel
theorem d102_62 : decode (hs_code 102) 62 = .ok (.iload 4, 2) := by decide +kernel
theorem d102_64 : decode (hs_code 102) 64 = .ok (.iconst 0, 1) := by decide +kernel
theorem d102_65 : decode (hs_code 102) 65 = .ok (.aload_n 0, 1) := by decide +kernel
theorem d102_66 : decode (hs_code 102) 66 = .ok (.getfield 21, 3) := by decide +kernel
theorem d102_69 : decode (hs_code 102) 69 = .ok (.iload 4, 2) := by decide +kernel
theorem d102_71 : decode (hs_code 102) 71 = .ok (.iaload, 1) := by decide +kernel
theorem d102_72 : decode (hs_code 102) 72 = .ok (.iload_n 1, 1) := by decide +kernel
theorem d102_73 : decode (hs_code 102) 73 = .ok (.isub, 1) := by decide +kernel
theorem d102_74 : decode (hs_code 102) 74 = .ok (.invokestatic 34, 3) := by decide +kernel
theorem d102_77 : decode (hs_code 102) 77 = .ok (.iastore, 1) := by decide +kernel
theorem d102_78 : decode (hs_code 102) 78 = .ok (.iinc 4 1, 3) := by decide +kernel
theorem d102_81 : decode (hs_code 102) 81 = .ok (.goto (-78), 3) := by decide +kernel
theorem d102_84 : decode (hs_code 102) 84 = .ok (.return_, 1) := by decide +kernel
theorem d103_0 : decode (hs_code 103) 0 = .ok (.iconst 0, 1) := by decide +kernel
theorem d103_1 : decode (hs_code 103) 1 = .ok (.iload_n 2, 1) := by decide +kernel
theorem d103_2 : decode (hs_code 103) 2 = .ok (.aload_n 0, 1) := by decide +kernel
theorem d103_3 : decode (hs_code 103) 3 = .ok (.getfield 21, 3) := by decide +kernel
theorem d103_6 : decode (hs_code 103) 6 = .ok (.iload_n 1, 1) := by decide +kernel
theorem d103_7 : decode (hs_code 103) 7 = .ok (.iaload, 1) := by decide +kernel
theorem d103_8 : decode (hs_code 103) 8 = .ok (.isub, 1) := by decide +kernel
theorem d103_9 : decode (hs_code 103) 9 = .ok (.invokestatic 34, 3) := by decide +kernel
theorem d103_12 : decode (hs_code 103) 12 = .ok (.istore 4, 2) := by decide +kernel
theorem d103_14 : decode (hs_code 103) 14 = .ok (.iload_n 3, 1) := by decide +kernel
theorem d103_15 : decode (hs_code 103) 15 = .ok (.ifCond .eq 19, 3) := by decide +kernel
theorem d103_18 : decode (hs_code 103) 18 = .ok (.iconst 2, 1) := by decide +kernel
theorem d103_19 : decode (hs_code 103) 19 = .ok (.aload_n 0, 1) := by decide +kernel
theorem d103_20 : decode (hs_code 103) 20 = .ok (.getfield 18, 3) := by decide +kernel
theorem d103_23 : decode (hs_code 103) 23 = .ok (.iload_n 1, 1) := by decide +kernel
theorem d103_24 : decode (hs_code 103) 24 = .ok (.iaload, 1) := by decide +kernel
theorem d103_25 : decode (hs_code 103) 25 = .ok (.iload 4, 2) := by decide +kernel
theorem d103_27 : decode (hs_code 103) 27 = .ok (.iadd, 1) := by decide +kernel
theorem d103_28 : decode (hs_code 103) 28 = .ok (.invokestatic 40, 3) := by decide +kernel
theorem d103_31 : decode (hs_code 103) 31 = .ok (.goto 16, 3) := by decide +kernel
theorem d103_34 : decode (hs_code 103) 34 = .ok (.iconst 0, 1) := by decide +kernel
theorem d103_35 : decode (hs_code 103) 35 = .ok (.aload_n 0, 1) := by decide +kernel
theorem d103_36 : decode (hs_code 103) 36 = .ok (.getfield 18, 3) := by decide +kernel
theorem d103_39 : decode (hs_code 103) 39 = .ok (.iload_n 1, 1) := by decide +kernel
theorem d103_40 : decode (hs_code 103) 40 = .ok (.iaload, 1) := by decide +kernel
theorem d103_41 : decode (hs_code 103) 41 = .ok (.iload 4, 2) := by decide +kernel
theorem d103_43 : decode (hs_code 103) 43 = .ok (.isub, 1) := by decide +kernel
theorem d103_44 : decode (hs_code 103) 44 = .ok (.invokestatic 34, 3) := by decide +kernel
theorem d103_47 : decode (hs_code 103) 47 = .ok (.ireturn, 1) := by decide +kernel
theorem d105_0 : decode (hs_code 105) 0 = .ok (.aload_n 0, 1) := by decide +kernel
theorem d105_1 : decode (hs_code 105) 1 = .ok (.getfield 76, 3) := by decide +kernel
theorem d105_4 : decode (hs_code 105) 4 = .ok (.iload_n 1, 1) := by decide +kernel
theorem d105_5 : decode (hs_code 105) 5 = .ok (.if_icmp .eq 7, 3) := by decide +kernel
theorem d105_8 : decode (hs_code 105) 8 = .ok (.iconst 1, 1) := by decide +kernel
theorem d105_9 : decode (hs_code 105) 9 = .ok (.goto 4, 3) := by decide +kernel
theorem d105_12 : decode (hs_code 105) 12 = .ok (.iconst 0, 1) := by decide +kernel
theorem d105_13 : decode (hs_code 105) 13 = .ok (.istore_n 2, 1) := by decide +kernel
theorem d105_14 : decode (hs_code 105) 14 = .ok (.aload_n 0, 1) := by decide +kernel
theorem d105_15 : decode (hs_code 105) 15 = .ok (.iload_n 1, 1) := by decide +kernel
theorem d105_16 : decode (hs_code 105) 16 = .ok (.putfield 76, 3) := by decide +kernel
theorem d105_19 : decode (hs_code 105) 19 = .ok (.iload_n 2, 1) := by decide +kernel
theorem d105_20 : decode (hs_code 105) 20 = .ok (.ireturn, 1) := by decide +kernel
theorem d110_0 : decode (hs_code 110) 0 = .ok (.aload_n 0, 1) := by decide +kernel
theorem d110_1 : decode (hs_code 110) 1 = .ok (.getfield 9, 3) := by decide +kernel
theorem d110_4 : decode (hs_code 110) 4 = .ok (.iload_n 1, 1) := by decide +kernel
theorem d110_5 : decode (hs_code 110) 5 = .ok (.iaload, 1) := by decide +kernel
theorem d110_6 : decode (hs_code 110) 6 = .ok (.iload_n 2, 1) := by decide +kernel
theorem d110_7 : decode (hs_code 110) 7 = .ok (.isub, 1) := by decide +kernel
theorem d110_8 : decode (hs_code 110) 8 = .ok (.istore_n 3, 1) := by decide +kernel
theorem d110_9 : decode (hs_code 110) 9 = .ok (.aload_n 0, 1) := by decide +kernel
theorem d110_10 : decode (hs_code 110) 10 = .ok (.getfield 9, 3) := by decide +kernel
theorem d110_13 : decode (hs_code 110) 13 = .ok (.iload_n 1, 1) := by decide +kernel
theorem d110_14 : decode (hs_code 110) 14 = .ok (.iload_n 2, 1) := by decide +kernel
theorem d110_15 : decode (hs_code 110) 15 = .ok (.iastore, 1) := by decide +kernel
theorem d110_16 : decode (hs_code 110) 16 = .ok (.iload_n 3, 1) := by decide +kernel
theorem d110_17 : decode (hs_code 110) 17 = .ok (.ireturn, 1) := by decide +kernel
theorem d112_0 : decode (hs_code 112) 0 = .ok (.iconst 0, 1) := by decide +kernel
theorem d112_1 : decode (hs_code 112) 1 = .ok (.istore_n 3, 1) := by decide +kernel
theorem d112_2 : decode (hs_code 112) 2 = .ok (.iconst 0, 1) := by decide +kernel
theorem d112_3 : decode (hs_code 112) 3 = .ok (.istore 4, 2) := by decide +kernel
theorem d112_5 : decode (hs_code 112) 5 = .ok (.iload 4, 2) := by decide +kernel
theorem d112_7 : decode (hs_code 112) 7 = .ok (.aload_n 0, 1) := by decide +kernel
theorem d112_8 : decode (hs_code 112) 8 = .ok (.getfield 52, 3) := by decide +kernel
theorem d112_11 : decode (hs_code 112) 11 = .ok (.if_icmp .ge 82, 3) := by decide +kernel
theorem d112_14 : decode (hs_code 112) 14 = .ok (.aload_n 0, 1) := by decide +kernel
theorem d112_15 : decode (hs_code 112) 15 = .ok (.getfield 29, 3) := by decide +kernel
theorem d112_18 : decode (hs_code 112) 18 = .ok (.iload 4, 2) := by decide +kernel
theorem d112_20 : decode (hs_code 112) 20 = .ok (.iaload, 1) := by decide +kernel
theorem d112_21 : decode (hs_code 112) 21 = .ok (.iload_n 2, 1) := by decide +kernel
theorem d112_22 : decode (hs_code 112) 22 = .ok (.isub, 1) := by decide +kernel
theorem d112_23 : decode (hs_code 112) 23 = .ok (.invokestatic 148, 3) := by decide +kernel
theorem d112_26 : decode (hs_code 112) 26 = .ok (.istore 5, 2) := by decide +kernel
theorem d112_28 : decode (hs_code 112) 28 = .ok (.aload_n 0, 1) := by decide +kernel
theorem d112_29 : decode (hs_code 112) 29 = .ok (.getfield 29, 3) := by decide +kernel
theorem d112_32 : decode (hs_code 112) 32 = .ok (.iload 4, 2) := by decide +kernel
theorem d112_34 : decode (hs_code 112) 34 = .ok (.iaload, 1) := by decide +kernel
theorem d112_35 : decode (hs_code 112) 35 = .ok (.aload_n 0, 1) := by decide +kernel
theorem d112_36 : decode (hs_code 112) 36 = .ok (.getfield 21, 3) := by decide +kernel
theorem d112_39 : decode (hs_code 112) 39 = .ok (.getfield 135, 3) := by decide +kernel
theorem d112_42 : decode (hs_code 112) 42 = .ok (.iload_n 1, 1) := by decide +kernel
theorem d112_43 : decode (hs_code 112) 43 = .ok (.iaload, 1) := by decide +kernel
theorem d112_44 : decode (hs_code 112) 44 = .ok (.isub, 1) := by decide +kernel
theorem d112_45 : decode (hs_code 112) 45 = .ok (.invokestatic 148, 3) := by decide +kernel
theorem d112_48 : decode (hs_code 112) 48 = .ok (.istore 6, 2) := by decide +kernel
theorem d112_50 : decode (hs_code 112) 50 = .ok (.iload 5, 2) := by decide +kernel
theorem d112_52 : decode (hs_code 112) 52 = .ok (.iload 6, 2) := by decide +kernel
theorem d112_54 : decode (hs_code 112) 54 = .ok (.if_icmp .ge 16, 3) := by decide +kernel
theorem d112_57 : decode (hs_code 112) 57 = .ok (.iload_n 3, 1) := by decide +kernel
theorem d112_58 : decode (hs_code 112) 58 = .ok (.aload_n 0, 1) := by decide +kernel
theorem d112_59 : decode (hs_code 112) 59 = .ok (.getfield 25, 3) := by decide +kernel
theorem d112_62 : decode (hs_code 112) 62 = .ok (.iload 4, 2) := by decide +kernel
theorem d112_64 : decode (hs_code 112) 64 = .ok (.iaload, 1) := by decide +kernel
theorem d112_65 : decode (hs_code 112) 65 = .ok (.iadd, 1) := by decide +kernel
theorem d112_66 : decode (hs_code 112) 66 = .ok (.istore_n 3, 1) := by decide +kernel
theorem d112_67 : decode (hs_code 112) 67 = .ok (.goto 20, 3) := by decide +kernel
theorem d112_70 : decode (hs_code 112) 70 = .ok (.iload 5, 2) := by decide +kernel
theorem d112_72 : decode (hs_code 112) 72 = .ok (.iload 6, 2) := by decide +kernel
theorem d112_74 : decode (hs_code 112) 74 = .ok (.if_icmp .le 13, 3) := by decide +kernel
theorem d112_77 : decode (hs_code 112) 77 = .ok (.iload_n 3, 1) := by decide +kernel
theorem d112_78 : decode (hs_code 112) 78 = .ok (.aload_n 0, 1) := by decide +kernel
theorem d112_79 : decode (hs_code 112) 79 = .ok (.getfield 25, 3) := by decide +kernel
theorem d112_82 : decode (hs_code 112) 82 = .ok (.iload 4, 2) := by decide +kernel
theorem d112_84 : decode (hs_code 112) 84 = .ok (.iaload, 1) := by decide +kernel
theorem d112_85 : decode (hs_code 112) 85 = .ok (.isub, 1) := by decide +kernel
theorem d112_86 : decode (hs_code 112) 86 = .ok (.istore_n 3, 1) := by decide +kernel
theorem d112_87 : decode (hs_code 112) 87 = .ok (.iinc 4 1, 3) := by decide +kernel
theorem d112_90 : decode (hs_code 112) 90 = .ok (.goto (-85), 3) := by decide +kernel
theorem d112_93 : decode (hs_code 112) 93 = .ok (.iload_n 3, 1) := by decide +kernel
theorem d112_94 : decode (hs_code 112) 94 = .ok (.ireturn, 1) := by decide +kernel
theorem d114_0 : decode (hs_code 114) 0 = .ok (.aload_n 0, 1) := by decide +kernel
theorem d114_1 : decode (hs_code 114) 1 = .ok (.getfield 80, 3) := by decide +kernel
theorem d114_4 : decode (hs_code 114) 4 = .ok (.iconst 1, 1) := by decide +kernel
theorem d114_5 : decode (hs_code 114) 5 = .ok (.iadd, 1) := by decide +kernel
theorem d114_6 : decode (hs_code 114) 6 = .ok (.aload_n 0, 1) := by decide +kernel
theorem d114_7 : decode (hs_code 114) 7 = .ok (.getfield 55, 3) := by decide +kernel
theorem d114_10 : decode (hs_code 114) 10 = .ok (.if_icmp .lt 5, 3) := by decide +kernel
theorem d114_13 : decode (hs_code 114) 13 = .ok (.iconst 0, 1) := by decide +kernel
theorem d114_14 : decode (hs_code 114) 14 = .ok (.ireturn, 1) := by decide +kernel
theorem d114_15 : decode (hs_code 114) 15 = .ok (.aload_n 0, 1) := by decide +kernel
theorem d114_16 : decode (hs_code 114) 16 = .ok (.dup, 1) := by decide +kernel
theorem d114_17 : decode (hs_code 114) 17 = .ok (.getfield 80, 3) := by decide +kernel
theorem d114_20 : decode (hs_code 114) 20 = .ok (.iconst 1, 1) := by decide +kernel
theorem d114_21 : decode (hs_code 114) 21 = .ok (.iadd, 1) := by decide +kernel
theorem d114_22 : decode (hs_code 114) 22 = .ok (.putfield 80, 3) := by decide +kernel
theorem d114_25 : decode (hs_code 114) 25 = .ok (.iconst 1, 1) := by decide +kernel
theorem d114_26 : decode (hs_code 114) 26 = .ok (.ireturn, 1) := by decide +kernel
theorem d121_0 : decode (hs_code 121) 0 = .ok (.iconst 0, 1) := by decide +kernel
theorem d121_1 : decode (hs_code 121) 1 = .ok (.istore_n 3, 1) := by decide +kernel
theorem d121_2 : decode (hs_code 121) 2 = .ok (.iload_n 3, 1) := by decide +kernel
theorem d121_3 : decode (hs_code 121) 3 = .ok (.aload_n 0, 1) := by decide +kernel
theorem d121_4 : decode (hs_code 121) 4 = .ok (.getfield 21, 3) := by decide +kernel
theorem d121_7 : decode (hs_code 121) 7 = .ok (.getfield 51, 3) := by decide +kernel
theorem d121_10 : decode (hs_code 121) 10 = .ok (.if_icmp .ge 43, 3) := by decide +kernel
theorem d121_13 : decode (hs_code 121) 13 = .ok (.aload_n 0, 1) := by decide +kernel
theorem d121_14 : decode (hs_code 121) 14 = .ok (.iload_n 1, 1) := by decide +kernel
theorem d121_15 : decode (hs_code 121) 15 = .ok (.iload_n 3, 1) := by decide +kernel
theorem d121_16 : decode (hs_code 121) 16 = .ok (.invokevirtual 113, 3) := by decide +kernel
theorem d121_19 : decode (hs_code 121) 19 = .ok (.istore 4, 2) := by decide +kernel
theorem d121_21 : decode (hs_code 121) 21 = .ok (.iload 4, 2) := by decide +kernel
theorem d121_23 : decode (hs_code 121) 23 = .ok (.iconst 3, 1) := by decide +kernel
theorem d121_24 : decode (hs_code 121) 24 = .ok (.if_icmp .eq 23, 3) := by decide +kernel
theorem d121_27 : decode (hs_code 121) 27 = .ok (.iload 4, 2) := by decide +kernel
theorem d121_29 : decode (hs_code 121) 29 = .ok (.aload_n 0, 1) := by decide +kernel
theorem d121_30 : decode (hs_code 121) 30 = .ok (.getfield 21, 3) := by decide +kernel
theorem d121_33 : decode (hs_code 121) 33 = .ok (.iload_n 3, 1) := by decide +kernel
theorem d121_34 : decode (hs_code 121) 34 = .ok (.iload_n 2, 1) := by decide +kernel
theorem d121_35 : decode (hs_code 121) 35 = .ok (.aload_n 0, 1) := by decide +kernel
theorem d121_36 : decode (hs_code 121) 36 = .ok (.getfield 76, 3) := by decide +kernel
theorem d121_39 : decode (hs_code 121) 39 = .ok (.invokevirtual 117, 3) := by decide +kernel
theorem d121_42 : decode (hs_code 121) 42 = .ok (.if_icmp .eq 5, 3) := by decide +kernel
theorem d121_45 : decode (hs_code 121) 45 = .ok (.iconst 0, 1) := by decide +kernel
theorem d121_46 : decode (hs_code 121) 46 = .ok (.ireturn, 1) := by decide +kernel
theorem d121_47 : decode (hs_code 121) 47 = .ok (.iinc 3 1, 3) := by decide +kernel
theorem d121_50 : decode (hs_code 121) 50 = .ok (.goto (-48), 3) := by decide +kernel
theorem d121_53 : decode (hs_code 121) 53 = .ok (.iconst 1, 1) := by decide +kernel
theorem d121_54 : decode (hs_code 121) 54 = .ok (.ireturn, 1) := by decide +kernel
theorem d126_0 : decode (hs_code 126) 0 = .ok (.iconst 0, 1) := by decide +kernel
theorem d126_1 : decode (hs_code 126) 1 = .ok (.istore_n 2, 1) := by decide +kernel
theorem d126_2 : decode (hs_code 126) 2 = .ok (.iconst 0, 1) := by decide +kernel
theorem d126_3 : decode (hs_code 126) 3 = .ok (.istore_n 3, 1) := by decide +kernel
theorem d126_4 : decode (hs_code 126) 4 = .ok (.iconst 0, 1) := by decide +kernel
theorem d126_5 : decode (hs_code 126) 5 = .ok (.istore 4, 2) := by decide +kernel
theorem d126_7 : decode (hs_code 126) 7 = .ok (.iload 4, 2) := by decide +kernel
theorem d126_9 : decode (hs_code 126) 9 = .ok (.aload_n 0, 1) := by decide +kernel
theorem d126_10 : decode (hs_code 126) 10 = .ok (.getfield 21, 3) := by decide +kernel
theorem d126_13 : decode (hs_code 126) 13 = .ok (.getfield 51, 3) := by decide +kernel
theorem d126_16 : decode (hs_code 126) 16 = .ok (.if_icmp .ge 60, 3) := by decide +kernel
theorem d126_19 : decode (hs_code 126) 19 = .ok (.aload_n 0, 1) := by decide +kernel
theorem d126_20 : decode (hs_code 126) 20 = .ok (.iload_n 1, 1) := by decide +kernel
theorem d126_21 : decode (hs_code 126) 21 = .ok (.iload 4, 2) := by decide +kernel
theorem d126_23 : decode (hs_code 126) 23 = .ok (.invokevirtual 113, 3) := by decide +kernel
theorem d126_26 : decode (hs_code 126) 26 = .ok (.istore 5, 2) := by decide +kernel
theorem d126_28 : decode (hs_code 126) 28 = .ok (.iload 5, 2) := by decide +kernel
theorem d126_30 : decode (hs_code 126) 30 = .ok (.iconst 3, 1) := by decide +kernel
theorem d126_31 : decode (hs_code 126) 31 = .ok (.if_icmp .eq 39, 3) := by decide +kernel
theorem d126_34 : decode (hs_code 126) 34 = .ok (.iload_n 2, 1) := by decide +kernel
theorem d126_35 : decode (hs_code 126) 35 = .ok (.iload 5, 2) := by decide +kernel
theorem d126_37 : decode (hs_code 126) 37 = .ok (.aload_n 0, 1) := by decide +kernel
theorem d126_38 : decode (hs_code 126) 38 = .ok (.getfield 21, 3) := by decide +kernel
theorem d126_41 : decode (hs_code 126) 41 = .ok (.getfield 121, 3) := by decide +kernel
theorem d126_44 : decode (hs_code 126) 44 = .ok (.iload 4, 2) := by decide +kernel
theorem d126_46 : decode (hs_code 126) 46 = .ok (.iaload, 1) := by decide +kernel
theorem d126_47 : decode (hs_code 126) 47 = .ok (.isub, 1) := by decide +kernel
theorem d126_48 : decode (hs_code 126) 48 = .ok (.invokestatic 124, 3) := by decide +kernel
theorem d126_51 : decode (hs_code 126) 51 = .ok (.istore_n 2, 1) := by decide +kernel
theorem d126_52 : decode (hs_code 126) 52 = .ok (.iload_n 3, 1) := by decide +kernel
theorem d126_53 : decode (hs_code 126) 53 = .ok (.aload_n 0, 1) := by decide +kernel
theorem d126_54 : decode (hs_code 126) 54 = .ok (.getfield 21, 3) := by decide +kernel
theorem d126_57 : decode (hs_code 126) 57 = .ok (.getfield 121, 3) := by decide +kernel
theorem d126_60 : decode (hs_code 126) 60 = .ok (.iload 4, 2) := by decide +kernel
theorem d126_62 : decode (hs_code 126) 62 = .ok (.iaload, 1) := by decide +kernel
theorem d126_63 : decode (hs_code 126) 63 = .ok (.iload 5, 2) := by decide +kernel
theorem d126_65 : decode (hs_code 126) 65 = .ok (.isub, 1) := by decide +kernel
theorem d126_66 : decode (hs_code 126) 66 = .ok (.invokestatic 124, 3) := by decide +kernel
theorem d126_69 : decode (hs_code 126) 69 = .ok (.istore_n 3, 1) := by decide +kernel
theorem d126_70 : decode (hs_code 126) 70 = .ok (.iinc 4 1, 3) := by decide +kernel
theorem d126_73 : decode (hs_code 126) 73 = .ok (.goto (-66), 3) := by decide +kernel
theorem d126_76 : decode (hs_code 126) 76 = .ok (.iload_n 2, 1) := by decide +kernel
theorem d126_77 : decode (hs_code 126) 77 = .ok (.iload_n 3, 1) := by decide +kernel
theorem d126_78 : decode (hs_code 126) 78 = .ok (.iadd, 1) := by decide +kernel
theorem d126_79 : decode (hs_code 126) 79 = .ok (.ireturn, 1) := by decide +kernel
theorem d128_0 : decode (hs_code 128) 0 = .ok (.iconst 0, 1) := by decide +kernel
theorem d128_1 : decode (hs_code 128) 1 = .ok (.istore_n 2, 1) := by decide +kernel
theorem d128_2 : decode (hs_code 128) 2 = .ok (.iconst 0, 1) := by decide +kernel
theorem d128_3 : decode (hs_code 128) 3 = .ok (.istore_n 3, 1) := by decide +kernel
theorem d128_4 : decode (hs_code 128) 4 = .ok (.iload_n 3, 1) := by decide +kernel
theorem d128_5 : decode (hs_code 128) 5 = .ok (.iload_n 1, 1) := by decide +kernel
theorem d128_6 : decode (hs_code 128) 6 = .ok (.if_icmp .gt 36, 3) := by decide +kernel
theorem d128_9 : decode (hs_code 128) 9 = .ok (.iload_n 3, 1) := by decide +kernel
theorem d128_10 : decode (hs_code 128) 10 = .ok (.iconst 2, 1) := by decide +kernel
theorem d128_11 : decode (hs_code 128) 11 = .ok (.if_icmp .gt 31, 3) := by decide +kernel
theorem d128_14 : decode (hs_code 128) 14 = .ok (.iload_n 2, 1) := by decide +kernel
theorem d128_15 : decode (hs_code 128) 15 = .ok (.aload_n 0, 1) := by decide +kernel
theorem d128_16 : decode (hs_code 128) 16 = .ok (.iload_n 3, 1) := by decide +kernel
theorem d128_17 : decode (hs_code 128) 17 = .ok (.iload_n 1, 1) := by decide +kernel
theorem d128_18 : decode (hs_code 128) 18 = .ok (.iload_n 3, 1) := by decide +kernel
theorem d128_19 : decode (hs_code 128) 19 = .ok (.isub, 1) := by decide +kernel
theorem d128_20 : decode (hs_code 128) 20 = .ok (.invokevirtual 47, 3) := by decide +kernel
theorem d128_23 : decode (hs_code 128) 23 = .ok (.aload_n 0, 1) := by decide +kernel
theorem d128_24 : decode (hs_code 128) 24 = .ok (.iload_n 3, 1) := by decide +kernel
theorem d128_25 : decode (hs_code 128) 25 = .ok (.iconst 1, 1) := by decide +kernel
theorem d128_26 : decode (hs_code 128) 26 = .ok (.isub, 1) := by decide +kernel
theorem d128_27 : decode (hs_code 128) 27 = .ok (.iload_n 1, 1) := by decide +kernel
theorem d128_28 : decode (hs_code 128) 28 = .ok (.iload_n 3, 1) := by decide +kernel
theorem d128_29 : decode (hs_code 128) 29 = .ok (.isub, 1) := by decide +kernel
theorem d128_30 : decode (hs_code 128) 30 = .ok (.invokevirtual 47, 3) := by decide +kernel
theorem d128_33 : decode (hs_code 128) 33 = .ok (.isub, 1) := by decide +kernel
theorem d128_34 : decode (hs_code 128) 34 = .ok (.iadd, 1) := by decide +kernel
theorem d128_35 : decode (hs_code 128) 35 = .ok (.istore_n 2, 1) := by decide +kernel
theorem d128_36 : decode (hs_code 128) 36 = .ok (.iinc 3 1, 3) := by decide +kernel
theorem d128_39 : decode (hs_code 128) 39 = .ok (.goto (-35), 3) := by decide +kernel
theorem d128_42 : decode (hs_code 128) 42 = .ok (.iload_n 2, 1) := by decide +kernel
theorem d128_43 : decode (hs_code 128) 43 = .ok (.ireturn, 1) := by decide +kernel
theorem d129_0 : decode (hs_code 129) 0 = .ok (.iload_n 1, 1) := by decide +kernel
theorem d129_1 : decode (hs_code 129) 1 = .ok (.ifCond .ge 5, 3) := by decide +kernel
theorem d129_4 : decode (hs_code 129) 4 = .ok (.iconst 0, 1) := by decide +kernel
theorem d129_5 : decode (hs_code 129) 5 = .ok (.ireturn, 1) := by decide +kernel
theorem d129_6 : decode (hs_code 129) 6 = .ok (.iconst 1, 1) := by decide +kernel
theorem d129_7 : decode (hs_code 129) 7 = .ok (.istore_n 3, 1) := by decide +kernel
theorem d129_8 : decode (hs_code 129) 8 = .ok (.iconst 0, 1) := by decide +kernel
theorem d129_9 : decode (hs_code 129) 9 = .ok (.istore 4, 2) := by decide +kernel
theorem d129_11 : decode (hs_code 129) 11 = .ok (.iload 4, 2) := by decide +kernel
theorem d129_13 : decode (hs_code 129) 13 = .ok (.aload_n 0, 1) := by decide +kernel
theorem d129_14 : decode (hs_code 129) 14 = .ok (.getfield 24, 3) := by decide +kernel
theorem d129_17 : decode (hs_code 129) 17 = .ok (.if_icmp .ge 49, 3) := by decide +kernel
theorem d129_20 : decode (hs_code 129) 20 = .ok (.iconst 2, 1) := by decide +kernel
theorem d129_21 : decode (hs_code 129) 21 = .ok (.aload_n 0, 1) := by decide +kernel
theorem d129_22 : decode (hs_code 129) 22 = .ok (.getfield 18, 3) := by decide +kernel
theorem d129_25 : decode (hs_code 129) 25 = .ok (.iload 4, 2) := by decide +kernel
theorem d129_27 : decode (hs_code 129) 27 = .ok (.iaload, 1) := by decide +kernel
theorem d129_28 : decode (hs_code 129) 28 = .ok (.iload_n 1, 1) := by decide +kernel
theorem d129_29 : decode (hs_code 129) 29 = .ok (.iadd, 1) := by decide +kernel
theorem d129_30 : decode (hs_code 129) 30 = .ok (.invokestatic 40, 3) := by decide +kernel
theorem d129_33 : decode (hs_code 129) 33 = .ok (.istore 5, 2) := by decide +kernel
theorem d129_35 : decode (hs_code 129) 35 = .ok (.iconst 0, 1) := by decide +kernel
theorem d129_36 : decode (hs_code 129) 36 = .ok (.aload_n 0, 1) := by decide +kernel
theorem d129_37 : decode (hs_code 129) 37 = .ok (.getfield 18, 3) := by decide +kernel
theorem d129_40 : decode (hs_code 129) 40 = .ok (.iload 4, 2) := by decide +kernel
theorem d129_42 : decode (hs_code 129) 42 = .ok (.iaload, 1) := by decide +kernel
theorem d129_43 : decode (hs_code 129) 43 = .ok (.iload_n 2, 1) := by decide +kernel
theorem d129_44 : decode (hs_code 129) 44 = .ok (.isub, 1) := by decide +kernel
theorem d129_45 : decode (hs_code 129) 45 = .ok (.invokestatic 34, 3) := by decide +kernel
theorem d129_48 : decode (hs_code 129) 48 = .ok (.istore 6, 2) := by decide +kernel
theorem d129_50 : decode (hs_code 129) 50 = .ok (.iload_n 3, 1) := by decide +kernel
theorem d129_51 : decode (hs_code 129) 51 = .ok (.iload 5, 2) := by decide +kernel
theorem d129_53 : decode (hs_code 129) 53 = .ok (.iload 6, 2) := by decide +kernel
theorem d129_55 : decode (hs_code 129) 55 = .ok (.isub, 1) := by decide +kernel
theorem d129_56 : decode (hs_code 129) 56 = .ok (.iconst 1, 1) := by decide +kernel
theorem d129_57 : decode (hs_code 129) 57 = .ok (.iadd, 1) := by decide +kernel
theorem d129_58 : decode (hs_code 129) 58 = .ok (.imul, 1) := by decide +kernel
theorem d129_59 : decode (hs_code 129) 59 = .ok (.istore_n 3, 1) := by decide +kernel
theorem d129_60 : decode (hs_code 129) 60 = .ok (.iinc 4 1, 3) := by decide +kernel
theorem d129_63 : decode (hs_code 129) 63 = .ok (.goto (-52), 3) := by decide +kernel
theorem d129_66 : decode (hs_code 129) 66 = .ok (.iload_n 3, 1) := by decide +kernel
theorem d129_67 : decode (hs_code 129) 67 = .ok (.ireturn, 1) := by decide +kernel
theorem d132_0 : decode (hs_code 132) 0 = .ok (.bipush 99, 2) := by decide +kernel
theorem d132_2 : decode (hs_code 132) 2 = .ok (.aload_n 0, 1) := by decide +kernel
theorem d132_3 : decode (hs_code 132) 3 = .ok (.getfield 21, 3) := by decide +kernel
theorem d132_6 : decode (hs_code 132) 6 = .ok (.getfield 135, 3) := by decide +kernel
theorem d132_9 : decode (hs_code 132) 9 = .ok (.iload_n 1, 1) := by decide +kernel
theorem d132_10 : decode (hs_code 132) 10 = .ok (.iaload, 1) := by decide +kernel
theorem d132_11 : decode (hs_code 132) 11 = .ok (.iload_n 2, 1) := by decide +kernel
theorem d132_12 : decode (hs_code 132) 12 = .ok (.aload_n 0, 1) := by decide +kernel
theorem d132_13 : decode (hs_code 132) 13 = .ok (.iload_n 1, 1) := by decide +kernel
theorem d132_14 : decode (hs_code 132) 14 = .ok (.invokevirtual 138, 3) := by decide +kernel
theorem d132_17 : decode (hs_code 132) 17 = .ok (.imul, 1) := by decide +kernel
theorem d132_18 : decode (hs_code 132) 18 = .ok (.iadd, 1) := by decide +kernel
theorem d132_19 : decode (hs_code 132) 19 = .ok (.invokestatic 141, 3) := by decide +kernel
theorem d132_22 : decode (hs_code 132) 22 = .ok (.ireturn, 1) := by decide +kernel
theorem d133_0 : decode (hs_code 133) 0 = .ok (.aload_n 0, 1) := by decide +kernel
theorem d133_1 : decode (hs_code 133) 1 = .ok (.getfield 21, 3) := by decide +kernel
theorem d133_4 : decode (hs_code 133) 4 = .ok (.getfield 129, 3) := by decide +kernel
theorem d133_7 : decode (hs_code 133) 7 = .ok (.iload_n 1, 1) := by decide +kernel
theorem d133_8 : decode (hs_code 133) 8 = .ok (.iaload, 1) := by decide +kernel
theorem d133_9 : decode (hs_code 133) 9 = .ok (.aload_n 0, 1) := by decide +kernel
theorem d133_10 : decode (hs_code 133) 10 = .ok (.invokevirtual 132, 3) := by decide +kernel
theorem d133_13 : decode (hs_code 133) 13 = .ok (.iadd, 1) := by decide +kernel
theorem d133_14 : decode (hs_code 133) 14 = .ok (.ireturn, 1) := by decide +kernel
theorem d137_0 : decode (hs_code 137) 0 = .ok (.iconst 1, 1) := by decide +kernel
theorem d137_1 : decode (hs_code 137) 1 = .ok (.istore_n 3, 1) := by decide +kernel
theorem d137_2 : decode (hs_code 137) 2 = .ok (.iload_n 3, 1) := by decide +kernel
theorem d137_3 : decode (hs_code 137) 3 = .ok (.aload_n 0, 1) := by decide +kernel
theorem d137_4 : decode (hs_code 137) 4 = .ok (.getfield 24, 3) := by decide +kernel
theorem d137_7 : decode (hs_code 137) 7 = .ok (.if_icmp .ge 28, 3) := by decide +kernel
theorem d137_10 : decode (hs_code 137) 10 = .ok (.aload_n 0, 1) := by decide +kernel
theorem d137_11 : decode (hs_code 137) 11 = .ok (.iload_n 3, 1) := by decide +kernel
theorem d137_12 : decode (hs_code 137) 12 = .ok (.iload_n 1, 1) := by decide +kernel
theorem d137_13 : decode (hs_code 137) 13 = .ok (.iload_n 2, 1) := by decide +kernel
theorem d137_14 : decode (hs_code 137) 14 = .ok (.invokevirtual 43, 3) := by decide +kernel
theorem d137_17 : decode (hs_code 137) 17 = .ok (.aload_n 0, 1) := by decide +kernel
theorem d137_18 : decode (hs_code 137) 18 = .ok (.iconst 0, 1) := by decide +kernel
theorem d137_19 : decode (hs_code 137) 19 = .ok (.iload_n 1, 1) := by decide +kernel
theorem d137_20 : decode (hs_code 137) 20 = .ok (.iload_n 2, 1) := by decide +kernel
theorem d137_21 : decode (hs_code 137) 21 = .ok (.invokevirtual 43, 3) := by decide +kernel
theorem d137_24 : decode (hs_code 137) 24 = .ok (.if_icmp .eq 5, 3) := by decide +kernel
theorem d137_27 : decode (hs_code 137) 27 = .ok (.iconst 0, 1) := by decide +kernel
theorem d137_28 : decode (hs_code 137) 28 = .ok (.ireturn, 1) := by decide +kernel
theorem d137_29 : decode (hs_code 137) 29 = .ok (.iinc 3 1, 3) := by decide +kernel
theorem d137_32 : decode (hs_code 137) 32 = .ok (.goto (-30), 3) := by decide +kernel
theorem d137_35 : decode (hs_code 137) 35 = .ok (.iconst 1, 1) := by decide +kernel
theorem d137_36 : decode (hs_code 137) 36 = .ok (.ireturn, 1) := by decide +kernel
theorem d139_0 : decode (hs_code 139) 0 = .ok (.iload_n 0, 1) := by decide +kernel
theorem d139_1 : decode (hs_code 139) 1 = .ok (.iload_n 0, 1) := by decide +kernel
theorem d139_2 : decode (hs_code 139) 2 = .ok (.iconst 1, 1) := by decide +kernel
theorem d139_3 : decode (hs_code 139) 3 = .ok (.iushr, 1) := by decide +kernel
theorem d139_4 : decode (hs_code 139) 4 = .ok (.ldc_w 265, 3) := by decide +kernel
theorem d139_7 : decode (hs_code 139) 7 = .ok (.iand, 1) := by decide +kernel
theorem d139_8 : decode (hs_code 139) 8 = .ok (.isub, 1) := by decide +kernel
theorem d139_9 : decode (hs_code 139) 9 = .ok (.istore_n 0, 1) := by decide +kernel
theorem d139_10 : decode (hs_code 139) 10 = .ok (.iload_n 0, 1) := by decide +kernel
theorem d139_11 : decode (hs_code 139) 11 = .ok (.ldc_w 266, 3) := by decide +kernel
theorem d139_14 : decode (hs_code 139) 14 = .ok (.iand, 1) := by decide +kernel
theorem d139_15 : decode (hs_code 139) 15 = .ok (.iload_n 0, 1) := by decide +kernel
theorem d139_16 : decode (hs_code 139) 16 = .ok (.iconst 2, 1) := by decide +kernel
theorem d139_17 : decode (hs_code 139) 17 = .ok (.iushr, 1) := by decide +kernel
theorem d139_18 : decode (hs_code 139) 18 = .ok (.ldc_w 266, 3) := by decide +kernel
theorem d139_21 : decode (hs_code 139) 21 = .ok (.iand, 1) := by decide +kernel
theorem d139_22 : decode (hs_code 139) 22 = .ok (.iadd, 1) := by decide +kernel
theorem d139_23 : decode (hs_code 139) 23 = .ok (.istore_n 0, 1) := by decide +kernel
theorem d139_24 : decode (hs_code 139) 24 = .ok (.iload_n 0, 1) := by decide +kernel
theorem d139_25 : decode (hs_code 139) 25 = .ok (.iload_n 0, 1) := by decide +kernel
theorem d139_26 : decode (hs_code 139) 26 = .ok (.iconst 4, 1) := by decide +kernel
theorem d139_27 : decode (hs_code 139) 27 = .ok (.iushr, 1) := by decide +kernel
theorem d139_28 : decode (hs_code 139) 28 = .ok (.iadd, 1) := by decide +kernel
theorem d139_29 : decode (hs_code 139) 29 = .ok (.ldc_w 267, 3) := by decide +kernel
theorem d139_32 : decode (hs_code 139) 32 = .ok (.iand, 1) := by decide +kernel
theorem d139_33 : decode (hs_code 139) 33 = .ok (.istore_n 0, 1) := by decide +kernel
theorem d139_34 : decode (hs_code 139) 34 = .ok (.iload_n 0, 1) := by decide +kernel
theorem d139_35 : decode (hs_code 139) 35 = .ok (.iload_n 0, 1) := by decide +kernel
theorem d139_36 : decode (hs_code 139) 36 = .ok (.bipush 8, 2) := by decide +kernel
theorem d139_38 : decode (hs_code 139) 38 = .ok (.iushr, 1) := by decide +kernel
theorem d139_39 : decode (hs_code 139) 39 = .ok (.iadd, 1) := by decide +kernel
theorem d139_40 : decode (hs_code 139) 40 = .ok (.istore_n 0, 1) := by decide +kernel
theorem d139_41 : decode (hs_code 139) 41 = .ok (.iload_n 0, 1) := by decide +kernel
theorem d139_42 : decode (hs_code 139) 42 = .ok (.iload_n 0, 1) := by decide +kernel
theorem d139_43 : decode (hs_code 139) 43 = .ok (.bipush 16, 2) := by decide +kernel
theorem d139_45 : decode (hs_code 139) 45 = .ok (.iushr, 1) := by decide +kernel
theorem d139_46 : decode (hs_code 139) 46 = .ok (.iadd, 1) := by decide +kernel
theorem d139_47 : decode (hs_code 139) 47 = .ok (.istore_n 0, 1) := by decide +kernel
theorem d139_48 : decode (hs_code 139) 48 = .ok (.iload_n 0, 1) := by decide +kernel
theorem d139_49 : decode (hs_code 139) 49 = .ok (.bipush 63, 2) := by decide +kernel
theorem d139_51 : decode (hs_code 139) 51 = .ok (.iand, 1) := by decide +kernel
theorem d139_52 : decode (hs_code 139) 52 = .ok (.ireturn, 1) := by decide +kernel
theorem d150_0 : decode (hs_code 150) 0 = .ok (.iconst 0, 1) := by decide +kernel
theorem d150_1 : decode (hs_code 150) 1 = .ok (.istore_n 2, 1) := by decide +kernel
theorem d150_2 : decode (hs_code 150) 2 = .ok (.iload_n 2, 1) := by decide +kernel
theorem d150_3 : decode (hs_code 150) 3 = .ok (.iload_n 1, 1) := by decide +kernel
theorem d150_4 : decode (hs_code 150) 4 = .ok (.if_icmp .ge 74, 3) := by decide +kernel
theorem d150_7 : decode (hs_code 150) 7 = .ok (.iconst 2, 1) := by decide +kernel
theorem d150_8 : decode (hs_code 150) 8 = .ok (.iload_n 2, 1) := by decide +kernel
theorem d150_9 : decode (hs_code 150) 9 = .ok (.imul, 1) := by decide +kernel
theorem d150_10 : decode (hs_code 150) 10 = .ok (.iconst 1, 1) := by decide +kernel
theorem d150_11 : decode (hs_code 150) 11 = .ok (.iadd, 1) := by decide +kernel
theorem d150_12 : decode (hs_code 150) 12 = .ok (.aload_n 0, 1) := by decide +kernel
theorem d150_13 : decode (hs_code 150) 13 = .ok (.getfield 15, 3) := by decide +kernel
theorem d150_16 : decode (hs_code 150) 16 = .ok (.if_icmp .ge 62, 3) := by decide +kernel
theorem d150_19 : decode (hs_code 150) 19 = .ok (.aload_n 0, 1) := by decide +kernel
theorem d150_20 : decode (hs_code 150) 20 = .ok (.getfield 9, 3) := by decide +kernel
theorem d150_23 : decode (hs_code 150) 23 = .ok (.iconst 2, 1) := by decide +kernel
theorem d150_24 : decode (hs_code 150) 24 = .ok (.iload_n 2, 1) := by decide +kernel
theorem d150_25 : decode (hs_code 150) 25 = .ok (.imul, 1) := by decide +kernel
theorem d150_26 : decode (hs_code 150) 26 = .ok (.laload, 1) := by decide +kernel
theorem d150_27 : decode (hs_code 150) 27 = .ok (.lstore_n 3, 1) := by decide +kernel
theorem d150_28 : decode (hs_code 150) 28 = .ok (.aload_n 0, 1) := by decide +kernel
theorem d150_29 : decode (hs_code 150) 29 = .ok (.getfield 9, 3) := by decide +kernel
theorem d150_32 : decode (hs_code 150) 32 = .ok (.iconst 2, 1) := by decide +kernel
theorem d150_33 : decode (hs_code 150) 33 = .ok (.iload_n 2, 1) := by decide +kernel
theorem d150_34 : decode (hs_code 150) 34 = .ok (.imul, 1) := by decide +kernel
theorem d150_35 : decode (hs_code 150) 35 = .ok (.iconst 1, 1) := by decide +kernel
theorem d150_36 : decode (hs_code 150) 36 = .ok (.iadd, 1) := by decide +kernel
theorem d150_37 : decode (hs_code 150) 37 = .ok (.laload, 1) := by decide +kernel
theorem d150_38 : decode (hs_code 150) 38 = .ok (.lstore 5, 2) := by decide +kernel
theorem d150_40 : decode (hs_code 150) 40 = .ok (.lload_n 3, 1) := by decide +kernel
theorem d150_41 : decode (hs_code 150) 41 = .ok (.lconst 0, 1) := by decide +kernel
theorem d150_42 : decode (hs_code 150) 42 = .ok (.lcmp, 1) := by decide +kernel
theorem d150_43 : decode (hs_code 150) 43 = .ok (.ifCond .lt 27, 3) := by decide +kernel
theorem d150_46 : decode (hs_code 150) 46 = .ok (.lload_n 3, 1) := by decide +kernel
theorem d150_47 : decode (hs_code 150) 47 = .ok (.ldc2_w 30, 3) := by decide +kernel
theorem d150_50 : decode (hs_code 150) 50 = .ok (.lcmp, 1) := by decide +kernel
theorem d150_51 : decode (hs_code 150) 51 = .ok (.ifCond .gt 19, 3) := by decide +kernel
theorem d150_54 : decode (hs_code 150) 54 = .ok (.lload 5, 2) := by decide +kernel
theorem d150_56 : decode (hs_code 150) 56 = .ok (.lconst 0, 1) := by decide +kernel
theorem d150_57 : decode (hs_code 150) 57 = .ok (.lcmp, 1) := by decide +kernel
theorem d150_58 : decode (hs_code 150) 58 = .ok (.ifCond .lt 12, 3) := by decide +kernel
theorem d150_61 : decode (hs_code 150) 61 = .ok (.lload 5, 2) := by decide +kernel
theorem d150_63 : decode (hs_code 150) 63 = .ok (.ldc2_w 32, 3) := by decide +kernel
theorem d150_66 : decode (hs_code 150) 66 = .ok (.lcmp, 1) := by decide +kernel
theorem d150_67 : decode (hs_code 150) 67 = .ok (.ifCond .le 5, 3) := by decide +kernel
theorem d150_70 : decode (hs_code 150) 70 = .ok (.iconst 0, 1) := by decide +kernel
theorem d150_71 : decode (hs_code 150) 71 = .ok (.ireturn, 1) := by decide +kernel
theorem d150_72 : decode (hs_code 150) 72 = .ok (.iinc 2 1, 3) := by decide +kernel
theorem d150_75 : decode (hs_code 150) 75 = .ok (.goto (-73), 3) := by decide +kernel
theorem d150_78 : decode (hs_code 150) 78 = .ok (.iconst 1, 1) := by decide +kernel
theorem d150_79 : decode (hs_code 150) 79 = .ok (.ireturn, 1) := by decide +kernel
theorem d157_0 : decode (hs_code 157) 0 = .ok (.aload_n 0, 1) := by decide +kernel
theorem d157_1 : decode (hs_code 157) 1 = .ok (.aload_n 1, 1) := by decide +kernel
theorem d157_2 : decode (hs_code 157) 2 = .ok (.putfield 15, 3) := by decide +kernel
theorem d157_5 : decode (hs_code 157) 5 = .ok (.aload_n 0, 1) := by decide +kernel
theorem d157_6 : decode (hs_code 157) 6 = .ok (.iload_n 2, 1) := by decide +kernel
theorem d157_7 : decode (hs_code 157) 7 = .ok (.putfield 19, 3) := by decide +kernel
theorem d157_10 : decode (hs_code 157) 10 = .ok (.iconst 0, 1) := by decide +kernel
theorem d157_11 : decode (hs_code 157) 11 = .ok (.istore_n 3, 1) := by decide +kernel
theorem d157_12 : decode (hs_code 157) 12 = .ok (.iload_n 3, 1) := by decide +kernel
theorem d157_13 : decode (hs_code 157) 13 = .ok (.aload_n 0, 1) := by decide +kernel
theorem d157_14 : decode (hs_code 157) 14 = .ok (.getfield 15, 3) := by decide +kernel
theorem d157_17 : decode (hs_code 157) 17 = .ok (.getfield 23, 3) := by decide +kernel
theorem d157_20 : decode (hs_code 157) 20 = .ok (.getfield 29, 3) := by decide +kernel
theorem d157_23 : decode (hs_code 157) 23 = .ok (.if_icmp .ge 27, 3) := by decide +kernel
theorem d157_26 : decode (hs_code 157) 26 = .ok (.aload_n 0, 1) := by decide +kernel
theorem d157_27 : decode (hs_code 157) 27 = .ok (.getfield 9, 3) := by decide +kernel
theorem d157_30 : decode (hs_code 157) 30 = .ok (.iload_n 3, 1) := by decide +kernel
theorem d157_31 : decode (hs_code 157) 31 = .ok (.aload_n 0, 1) := by decide +kernel
theorem d157_32 : decode (hs_code 157) 32 = .ok (.getfield 15, 3) := by decide +kernel
theorem d157_35 : decode (hs_code 157) 35 = .ok (.iload_n 3, 1) := by decide +kernel
theorem d157_36 : decode (hs_code 157) 36 = .ok (.aload_n 0, 1) := by decide +kernel
theorem d157_37 : decode (hs_code 157) 37 = .ok (.getfield 19, 3) := by decide +kernel
theorem d157_40 : decode (hs_code 157) 40 = .ok (.invokevirtual 34, 3) := by decide +kernel
theorem d157_43 : decode (hs_code 157) 43 = .ok (.iastore, 1) := by decide +kernel
theorem d157_44 : decode (hs_code 157) 44 = .ok (.iinc 3 1, 3) := by decide +kernel
theorem d157_47 : decode (hs_code 157) 47 = .ok (.goto (-35), 3) := by decide +kernel
theorem d157_50 : decode (hs_code 157) 50 = .ok (.return_, 1) := by decide +kernel
theorem d158_0 : decode (hs_code 158) 0 = .ok (.aload_n 0, 1) := by decide +kernel
theorem d158_1 : decode (hs_code 158) 1 = .ok (.iconst 0, 1) := by decide +kernel
theorem d158_2 : decode (hs_code 158) 2 = .ok (.aload_n 0, 1) := by decide +kernel
theorem d158_3 : decode (hs_code 158) 3 = .ok (.invokevirtual 38, 3) := by decide +kernel
theorem d158_6 : decode (hs_code 158) 6 = .ok (.invokevirtual 42, 3) := by decide +kernel
theorem d158_9 : decode (hs_code 158) 9 = .ok (.ireturn, 1) := by decide +kernel
theorem d159_0 : decode (hs_code 159) 0 = .ok (.iconst 0, 1) := by decide +kernel
theorem d159_1 : decode (hs_code 159) 1 = .ok (.istore_n 1, 1) := by decide +kernel
theorem d159_2 : decode (hs_code 159) 2 = .ok (.iconst 0, 1) := by decide +kernel
theorem d159_3 : decode (hs_code 159) 3 = .ok (.istore_n 2, 1) := by decide +kernel
theorem d159_4 : decode (hs_code 159) 4 = .ok (.iload_n 2, 1) := by decide +kernel
theorem d159_5 : decode (hs_code 159) 5 = .ok (.aload_n 0, 1) := by decide +kernel
theorem d159_6 : decode (hs_code 159) 6 = .ok (.getfield 15, 3) := by decide +kernel
theorem d159_9 : decode (hs_code 159) 9 = .ok (.getfield 23, 3) := by decide +kernel
theorem d159_12 : decode (hs_code 159) 12 = .ok (.getfield 29, 3) := by decide +kernel
theorem d159_15 : decode (hs_code 159) 15 = .ok (.if_icmp .ge 24, 3) := by decide +kernel
theorem d159_18 : decode (hs_code 159) 18 = .ok (.iload_n 1, 1) := by decide +kernel
theorem d159_19 : decode (hs_code 159) 19 = .ok (.aload_n 0, 1) := by decide +kernel
theorem d159_20 : decode (hs_code 159) 20 = .ok (.iload_n 2, 1) := by decide +kernel
theorem d159_21 : decode (hs_code 159) 21 = .ok (.invokevirtual 52, 3) := by decide +kernel
theorem d159_24 : decode (hs_code 159) 24 = .ok (.aload_n 0, 1) := by decide +kernel
theorem d159_25 : decode (hs_code 159) 25 = .ok (.getfield 9, 3) := by decide +kernel
theorem d159_28 : decode (hs_code 159) 28 = .ok (.iload_n 2, 1) := by decide +kernel
theorem d159_29 : decode (hs_code 159) 29 = .ok (.iaload, 1) := by decide +kernel
theorem d159_30 : decode (hs_code 159) 30 = .ok (.imul, 1) := by decide +kernel
theorem d159_31 : decode (hs_code 159) 31 = .ok (.iadd, 1) := by decide +kernel
theorem d159_32 : decode (hs_code 159) 32 = .ok (.istore_n 1, 1) := by decide +kernel
theorem d159_33 : decode (hs_code 159) 33 = .ok (.iinc 2 1, 3) := by decide +kernel
theorem d159_36 : decode (hs_code 159) 36 = .ok (.goto (-32), 3) := by decide +kernel
theorem d159_39 : decode (hs_code 159) 39 = .ok (.iload_n 1, 1) := by decide +kernel
theorem d159_40 : decode (hs_code 159) 40 = .ok (.ireturn, 1) := by decide +kernel
theorem d160_0 : decode (hs_code 160) 0 = .ok (.iload_n 1, 1) := by decide +kernel
theorem d160_1 : decode (hs_code 160) 1 = .ok (.aload_n 0, 1) := by decide +kernel
theorem d160_2 : decode (hs_code 160) 2 = .ok (.getfield 15, 3) := by decide +kernel
theorem d160_5 : decode (hs_code 160) 5 = .ok (.getfield 23, 3) := by decide +kernel
theorem d160_8 : decode (hs_code 160) 8 = .ok (.getfield 29, 3) := by decide +kernel
theorem d160_11 : decode (hs_code 160) 11 = .ok (.iconst 2, 1) := by decide +kernel
theorem d160_12 : decode (hs_code 160) 12 = .ok (.idiv, 1) := by decide +kernel
theorem d160_13 : decode (hs_code 160) 13 = .ok (.if_icmp .ge 7, 3) := by decide +kernel
theorem d160_16 : decode (hs_code 160) 16 = .ok (.iconst 1, 1) := by decide +kernel
theorem d160_17 : decode (hs_code 160) 17 = .ok (.goto 4, 3) := by decide +kernel
theorem d160_20 : decode (hs_code 160) 20 = .ok (.iconst (-1), 1) := by decide +kernel
theorem d160_21 : decode (hs_code 160) 21 = .ok (.ireturn, 1) := by decide +kernel
theorem d161_0 : decode (hs_code 161) 0 = .ok (.iload_n 1, 1) := by decide +kernel
theorem d161_1 : decode (hs_code 161) 1 = .ok (.aload_n 0, 1) := by decide +kernel
theorem d161_2 : decode (hs_code 161) 2 = .ok (.getfield 19, 3) := by decide +kernel
theorem d161_5 : decode (hs_code 161) 5 = .ok (.if_icmp .lt 5, 3) := by decide +kernel
theorem d161_8 : decode (hs_code 161) 8 = .ok (.iload_n 2, 1) := by decide +kernel
theorem d161_9 : decode (hs_code 161) 9 = .ok (.ireturn, 1) := by decide +kernel
theorem d161_10 : decode (hs_code 161) 10 = .ok (.aload_n 0, 1) := by decide +kernel
theorem d161_11 : decode (hs_code 161) 11 = .ok (.iload_n 1, 1) := by decide +kernel
theorem d161_12 : decode (hs_code 161) 12 = .ok (.iconst 1, 1) := by decide +kernel
theorem d161_13 : decode (hs_code 161) 13 = .ok (.iadd, 1) := by decide +kernel
theorem d161_14 : decode (hs_code 161) 14 = .ok (.iload_n 2, 1) := by decide +kernel
theorem d161_15 : decode (hs_code 161) 15 = .ok (.invokevirtual 42, 3) := by decide +kernel
theorem d161_18 : decode (hs_code 161) 18 = .ok (.istore_n 3, 1) := by decide +kernel
theorem d161_19 : decode (hs_code 161) 19 = .ok (.iconst 0, 1) := by decide +kernel
theorem d161_20 : decode (hs_code 161) 20 = .ok (.istore 4, 2) := by decide +kernel
theorem d161_22 : decode (hs_code 161) 22 = .ok (.iload 4, 2) := by decide +kernel
theorem d161_24 : decode (hs_code 161) 24 = .ok (.aload_n 0, 1) := by decide +kernel
theorem d161_25 : decode (hs_code 161) 25 = .ok (.getfield 15, 3) := by decide +kernel
theorem d161_28 : decode (hs_code 161) 28 = .ok (.getfield 23, 3) := by decide +kernel
theorem d161_31 : decode (hs_code 161) 31 = .ok (.getfield 29, 3) := by decide +kernel
theorem d161_34 : decode (hs_code 161) 34 = .ok (.if_icmp .ge 41, 3) := by decide +kernel
theorem d161_37 : decode (hs_code 161) 37 = .ok (.aload_n 0, 1) := by decide +kernel
theorem d161_38 : decode (hs_code 161) 38 = .ok (.iload 4, 2) := by decide +kernel
theorem d161_40 : decode (hs_code 161) 40 = .ok (.iload_n 1, 1) := by decide +kernel
theorem d161_41 : decode (hs_code 161) 41 = .ok (.iload_n 2, 1) := by decide +kernel
theorem d161_42 : decode (hs_code 161) 42 = .ok (.invokevirtual 48, 3) := by decide +kernel
theorem d161_45 : decode (hs_code 161) 45 = .ok (.istore 5, 2) := by decide +kernel
theorem d161_47 : decode (hs_code 161) 47 = .ok (.iload_n 1, 1) := by decide +kernel
theorem d161_48 : decode (hs_code 161) 48 = .ok (.iconst 2, 1) := by decide +kernel
theorem d161_49 : decode (hs_code 161) 49 = .ok (.irem, 1) := by decide +kernel
theorem d161_50 : decode (hs_code 161) 50 = .ok (.ifCond .ne 12, 3) := by decide +kernel
theorem d161_53 : decode (hs_code 161) 53 = .ok (.iload_n 3, 1) := by decide +kernel
theorem d161_54 : decode (hs_code 161) 54 = .ok (.iload 5, 2) := by decide +kernel
theorem d161_56 : decode (hs_code 161) 56 = .ok (.invokestatic 56, 3) := by decide +kernel
theorem d161_59 : decode (hs_code 161) 59 = .ok (.goto 9, 3) := by decide +kernel
theorem d161_62 : decode (hs_code 161) 62 = .ok (.iload_n 3, 1) := by decide +kernel
theorem d161_63 : decode (hs_code 161) 63 = .ok (.iload 5, 2) := by decide +kernel
theorem d161_65 : decode (hs_code 161) 65 = .ok (.invokestatic 61, 3) := by decide +kernel
theorem d161_68 : decode (hs_code 161) 68 = .ok (.istore_n 3, 1) := by decide +kernel
theorem d161_69 : decode (hs_code 161) 69 = .ok (.iinc 4 1, 3) := by decide +kernel
theorem d161_72 : decode (hs_code 161) 72 = .ok (.goto (-50), 3) := by decide +kernel
theorem d161_75 : decode (hs_code 161) 75 = .ok (.iload_n 3, 1) := by decide +kernel
theorem d161_76 : decode (hs_code 161) 76 = .ok (.ireturn, 1) := by decide +kernel
theorem d162_0 : decode (hs_code 162) 0 = .ok (.aload_n 0, 1) := by decide +kernel
theorem d162_1 : decode (hs_code 162) 1 = .ok (.getfield 9, 3) := by decide +kernel
theorem d162_4 : decode (hs_code 162) 4 = .ok (.iload_n 1, 1) := by decide +kernel
theorem d162_5 : decode (hs_code 162) 5 = .ok (.iaload, 1) := by decide +kernel
theorem d162_6 : decode (hs_code 162) 6 = .ok (.istore 4, 2) := by decide +kernel
theorem d162_8 : decode (hs_code 162) 8 = .ok (.aload_n 0, 1) := by decide +kernel
theorem d162_9 : decode (hs_code 162) 9 = .ok (.getfield 9, 3) := by decide +kernel
theorem d162_12 : decode (hs_code 162) 12 = .ok (.iload_n 1, 1) := by decide +kernel
theorem d162_13 : decode (hs_code 162) 13 = .ok (.bipush 99, 2) := by decide +kernel
theorem d162_15 : decode (hs_code 162) 15 = .ok (.aload_n 0, 1) := by decide +kernel
theorem d162_16 : decode (hs_code 162) 16 = .ok (.getfield 19, 3) := by decide +kernel
theorem d162_19 : decode (hs_code 162) 19 = .ok (.iload_n 2, 1) := by decide +kernel
theorem d162_20 : decode (hs_code 162) 20 = .ok (.isub, 1) := by decide +kernel
theorem d162_21 : decode (hs_code 162) 21 = .ok (.aload_n 0, 1) := by decide +kernel
theorem d162_22 : decode (hs_code 162) 22 = .ok (.getfield 15, 3) := by decide +kernel
theorem d162_25 : decode (hs_code 162) 25 = .ok (.iload_n 1, 1) := by decide +kernel
theorem d162_26 : decode (hs_code 162) 26 = .ok (.invokevirtual 64, 3) := by decide +kernel
theorem d162_29 : decode (hs_code 162) 29 = .ok (.imul, 1) := by decide +kernel
theorem d162_30 : decode (hs_code 162) 30 = .ok (.invokestatic 61, 3) := by decide +kernel
theorem d162_33 : decode (hs_code 162) 33 = .ok (.iastore, 1) := by decide +kernel
theorem d162_34 : decode (hs_code 162) 34 = .ok (.aload_n 0, 1) := by decide +kernel
theorem d162_35 : decode (hs_code 162) 35 = .ok (.iload_n 2, 1) := by decide +kernel
theorem d162_36 : decode (hs_code 162) 36 = .ok (.iconst 1, 1) := by decide +kernel
theorem d162_37 : decode (hs_code 162) 37 = .ok (.iadd, 1) := by decide +kernel
theorem d162_38 : decode (hs_code 162) 38 = .ok (.iload_n 3, 1) := by decide +kernel
theorem d162_39 : decode (hs_code 162) 39 = .ok (.aload_n 0, 1) := by decide +kernel
theorem d162_40 : decode (hs_code 162) 40 = .ok (.iload_n 1, 1) := by decide +kernel
theorem d162_41 : decode (hs_code 162) 41 = .ok (.invokevirtual 52, 3) := by decide +kernel
theorem d162_44 : decode (hs_code 162) 44 = .ok (.aload_n 0, 1) := by decide +kernel
theorem d162_45 : decode (hs_code 162) 45 = .ok (.getfield 9, 3) := by decide +kernel
theorem d162_48 : decode (hs_code 162) 48 = .ok (.iload_n 1, 1) := by decide +kernel
theorem d162_49 : decode (hs_code 162) 49 = .ok (.iaload, 1) := by decide +kernel
theorem d162_50 : decode (hs_code 162) 50 = .ok (.iload 4, 2) := by decide +kernel
theorem d162_52 : decode (hs_code 162) 52 = .ok (.isub, 1) := by decide +kernel
theorem d162_53 : decode (hs_code 162) 53 = .ok (.imul, 1) := by decide +kernel
theorem d162_54 : decode (hs_code 162) 54 = .ok (.iadd, 1) := by decide +kernel
theorem d162_55 : decode (hs_code 162) 55 = .ok (.invokevirtual 42, 3) := by decide +kernel
theorem d162_58 : decode (hs_code 162) 58 = .ok (.istore 5, 2) := by decide +kernel
theorem d162_60 : decode (hs_code 162) 60 = .ok (.aload_n 0, 1) := by decide +kernel
theorem d162_61 : decode (hs_code 162) 61 = .ok (.getfield 9, 3) := by decide +kernel
theorem d162_64 : decode (hs_code 162) 64 = .ok (.iload_n 1, 1) := by decide +kernel
theorem d162_65 : decode (hs_code 162) 65 = .ok (.iload 4, 2) := by decide +kernel
theorem d162_67 : decode (hs_code 162) 67 = .ok (.iastore, 1) := by decide +kernel
theorem d162_68 : decode (hs_code 162) 68 = .ok (.iload 5, 2) := by decide +kernel
theorem d162_70 : decode (hs_code 162) 70 = .ok (.ireturn, 1) := by decide +kernel
theorem d164_0 : decode (hs_code 164) 0 = .ok (.aload_n 0, 1) := by decide +kernel
theorem d164_1 : decode (hs_code 164) 1 = .ok (.invokevirtual 45, 3) := by decide +kernel
theorem d164_4 : decode (hs_code 164) 4 = .ok (.istore_n 1, 1) := by decide +kernel
theorem d164_5 : decode (hs_code 164) 5 = .ok (.aload_n 0, 1) := by decide +kernel
theorem d164_6 : decode (hs_code 164) 6 = .ok (.invokevirtual 38, 3) := by decide +kernel
theorem d164_9 : decode (hs_code 164) 9 = .ok (.istore_n 2, 1) := by decide +kernel
theorem d164_10 : decode (hs_code 164) 10 = .ok (.iconst 0, 1) := by decide +kernel
theorem d164_11 : decode (hs_code 164) 11 = .ok (.istore_n 3, 1) := by decide +kernel
theorem d164_12 : decode (hs_code 164) 12 = .ok (.iload_n 3, 1) := by decide +kernel
theorem d164_13 : decode (hs_code 164) 13 = .ok (.aload_n 0, 1) := by decide +kernel
theorem d164_14 : decode (hs_code 164) 14 = .ok (.getfield 15, 3) := by decide +kernel
theorem d164_17 : decode (hs_code 164) 17 = .ok (.getfield 23, 3) := by decide +kernel
theorem d164_20 : decode (hs_code 164) 20 = .ok (.getfield 29, 3) := by decide +kernel
theorem d164_23 : decode (hs_code 164) 23 = .ok (.if_icmp .ge 22, 3) := by decide +kernel
theorem d164_26 : decode (hs_code 164) 26 = .ok (.aload_n 0, 1) := by decide +kernel
theorem d164_27 : decode (hs_code 164) 27 = .ok (.iload_n 3, 1) := by decide +kernel
theorem d164_28 : decode (hs_code 164) 28 = .ok (.iconst 0, 1) := by decide +kernel
theorem d164_29 : decode (hs_code 164) 29 = .ok (.iload_n 2, 1) := by decide +kernel
theorem d164_30 : decode (hs_code 164) 30 = .ok (.invokevirtual 48, 3) := by decide +kernel
theorem d164_33 : decode (hs_code 164) 33 = .ok (.iload_n 1, 1) := by decide +kernel
theorem d164_34 : decode (hs_code 164) 34 = .ok (.if_icmp .ne 5, 3) := by decide +kernel
theorem d164_37 : decode (hs_code 164) 37 = .ok (.iload_n 3, 1) := by decide +kernel
theorem d164_38 : decode (hs_code 164) 38 = .ok (.ireturn, 1) := by decide +kernel
theorem d164_39 : decode (hs_code 164) 39 = .ok (.iinc 3 1, 3) := by decide +kernel
theorem d164_42 : decode (hs_code 164) 42 = .ok (.goto (-30), 3) := by decide +kernel
theorem d164_45 : decode (hs_code 164) 45 = .ok (.iconst (-1), 1) := by decide +kernel
theorem d164_46 : decode (hs_code 164) 46 = .ok (.ireturn, 1) := by decide +kernel
theorem d166_0 : decode (hs_code 166) 0 = .ok (.iconst 0, 1) := by decide +kernel
theorem d166_1 : decode (hs_code 166) 1 = .ok (.istore_n 2, 1) := by decide +kernel
theorem d166_2 : decode (hs_code 166) 2 = .ok (.iconst 0, 1) := by decide +kernel
theorem d166_3 : decode (hs_code 166) 3 = .ok (.istore_n 3, 1) := by decide +kernel
theorem d166_4 : decode (hs_code 166) 4 = .ok (.iload_n 3, 1) := by decide +kernel
theorem d166_5 : decode (hs_code 166) 5 = .ok (.aload_n 0, 1) := by decide +kernel
theorem d166_6 : decode (hs_code 166) 6 = .ok (.getfield 21, 3) := by decide +kernel
theorem d166_9 : decode (hs_code 166) 9 = .ok (.getfield 51, 3) := by decide +kernel
theorem d166_12 : decode (hs_code 166) 12 = .ok (.if_icmp .ge 22, 3) := by decide +kernel
theorem d166_15 : decode (hs_code 166) 15 = .ok (.aload_n 0, 1) := by decide +kernel
theorem d166_16 : decode (hs_code 166) 16 = .ok (.iload_n 1, 1) := by decide +kernel
theorem d166_17 : decode (hs_code 166) 17 = .ok (.iload_n 3, 1) := by decide +kernel
theorem d166_18 : decode (hs_code 166) 18 = .ok (.invokevirtual 113, 3) := by decide +kernel
theorem d166_21 : decode (hs_code 166) 21 = .ok (.iconst 3, 1) := by decide +kernel
theorem d166_22 : decode (hs_code 166) 22 = .ok (.if_icmp .eq 6, 3) := by decide +kernel
theorem d166_25 : decode (hs_code 166) 25 = .ok (.iinc 2 1, 3) := by decide +kernel
theorem d166_28 : decode (hs_code 166) 28 = .ok (.iinc 3 1, 3) := by decide +kernel
theorem d166_31 : decode (hs_code 166) 31 = .ok (.goto (-27), 3) := by decide +kernel
theorem d166_34 : decode (hs_code 166) 34 = .ok (.iload_n 2, 1) := by decide +kernel
theorem d166_35 : decode (hs_code 166) 35 = .ok (.ireturn, 1) := by decide +kernel
theorem d172_0 : decode (hs_code 172) 0 = .ok (.aload_n 0, 1) := by decide +kernel
theorem d172_1 : decode (hs_code 172) 1 = .ok (.aload_n 1, 1) := by decide +kernel
theorem d172_2 : decode (hs_code 172) 2 = .ok (.putfield 34, 3) := by decide +kernel
theorem d172_5 : decode (hs_code 172) 5 = .ok (.aload_n 0, 1) := by decide +kernel
theorem d172_6 : decode (hs_code 172) 6 = .ok (.aload_n 2, 1) := by decide +kernel
theorem d172_7 : decode (hs_code 172) 7 = .ok (.putfield 38, 3) := by decide +kernel
theorem d172_10 : decode (hs_code 172) 10 = .ok (.aload_n 0, 1) := by decide +kernel
theorem d172_11 : decode (hs_code 172) 11 = .ok (.iload_n 3, 1) := by decide +kernel
theorem d172_12 : decode (hs_code 172) 12 = .ok (.putfield 42, 3) := by decide +kernel
theorem d172_15 : decode (hs_code 172) 15 = .ok (.aload_n 0, 1) := by decide +kernel
theorem d172_16 : decode (hs_code 172) 16 = .ok (.iconst 0, 1) := by decide +kernel
theorem d172_17 : decode (hs_code 172) 17 = .ok (.putfield 45, 3) := by decide +kernel
theorem d172_20 : decode (hs_code 172) 20 = .ok (.aload_n 0, 1) := by decide +kernel
theorem d172_21 : decode (hs_code 172) 21 = .ok (.iconst 0, 1) := by decide +kernel
theorem d172_22 : decode (hs_code 172) 22 = .ok (.putfield 17, 3) := by decide +kernel
theorem d172_25 : decode (hs_code 172) 25 = .ok (.aload_n 0, 1) := by decide +kernel
theorem d172_26 : decode (hs_code 172) 26 = .ok (.iconst 0, 1) := by decide +kernel
theorem d172_27 : decode (hs_code 172) 27 = .ok (.putfield 21, 3) := by decide +kernel
theorem d172_30 : decode (hs_code 172) 30 = .ok (.aload_n 0, 1) := by decide +kernel
theorem d172_31 : decode (hs_code 172) 31 = .ok (.iconst 0, 1) := by decide +kernel
theorem d172_32 : decode (hs_code 172) 32 = .ok (.putfield 24, 3) := by decide +kernel
theorem d172_35 : decode (hs_code 172) 35 = .ok (.aload_n 0, 1) := by decide +kernel
theorem d172_36 : decode (hs_code 172) 36 = .ok (.iconst 0, 1) := by decide +kernel
theorem d172_37 : decode (hs_code 172) 37 = .ok (.putfield 27, 3) := by decide +kernel
theorem d172_40 : decode (hs_code 172) 40 = .ok (.aload_n 0, 1) := by decide +kernel
theorem d172_41 : decode (hs_code 172) 41 = .ok (.iconst 0, 1) := by decide +kernel
theorem d172_42 : decode (hs_code 172) 42 = .ok (.putfield 30, 3) := by decide +kernel
theorem d172_45 : decode (hs_code 172) 45 = .ok (.iconst 0, 1) := by decide +kernel
theorem d172_46 : decode (hs_code 172) 46 = .ok (.istore 4, 2) := by decide +kernel
theorem d172_48 : decode (hs_code 172) 48 = .ok (.iconst 0, 1) := by decide +kernel
theorem d172_49 : decode (hs_code 172) 49 = .ok (.istore 5, 2) := by decide +kernel
theorem d172_51 : decode (hs_code 172) 51 = .ok (.iload 5, 2) := by decide +kernel
theorem d172_53 : decode (hs_code 172) 53 = .ok (.sipush 10000, 3) := by decide +kernel
theorem d172_56 : decode (hs_code 172) 56 = .ok (.if_icmp .ge 114, 3) := by decide +kernel
theorem d172_59 : decode (hs_code 172) 59 = .ok (.iload 4, 2) := by decide +kernel
theorem d172_61 : decode (hs_code 172) 61 = .ok (.ifCond .lt 109, 3) := by decide +kernel
theorem d172_64 : decode (hs_code 172) 64 = .ok (.iload 4, 2) := by decide +kernel
theorem d172_66 : decode (hs_code 172) 66 = .ok (.aload_n 0, 1) := by decide +kernel
theorem d172_67 : decode (hs_code 172) 67 = .ok (.getfield 34, 3) := by decide +kernel
theorem d172_70 : decode (hs_code 172) 70 = .ok (.getfield 48, 3) := by decide +kernel
theorem d172_73 : decode (hs_code 172) 73 = .ok (.if_icmp .ge 97, 3) := by decide +kernel
theorem d172_76 : decode (hs_code 172) 76 = .ok (.aload_n 0, 1) := by decide +kernel
theorem d172_77 : decode (hs_code 172) 77 = .ok (.getfield 30, 3) := by decide +kernel
theorem d172_80 : decode (hs_code 172) 80 = .ok (.ifCond .ne 90, 3) := by decide +kernel
theorem d172_83 : decode (hs_code 172) 83 = .ok (.aload_n 0, 1) := by decide +kernel
theorem d172_84 : decode (hs_code 172) 84 = .ok (.getfield 34, 3) := by decide +kernel
theorem d172_87 : decode (hs_code 172) 87 = .ok (.getfield 51, 3) := by decide +kernel
theorem d172_90 : decode (hs_code 172) 90 = .ok (.iload 4, 2) := by decide +kernel
theorem d172_92 : decode (hs_code 172) 92 = .ok (.iaload, 1) := by decide +kernel
theorem d172_93 : decode (hs_code 172) 93 = .ok (.bipush 28, 2) := by decide +kernel
theorem d172_95 : decode (hs_code 172) 95 = .ok (.if_icmp .ne 14, 3) := by decide +kernel
theorem d172_98 : decode (hs_code 172) 98 = .ok (.aload_n 0, 1) := by decide +kernel
theorem d172_99 : decode (hs_code 172) 99 = .ok (.iload 4, 2) := by decide +kernel
theorem d172_101 : decode (hs_code 172) 101 = .ok (.invokevirtual 54, 3) := by decide +kernel
theorem d172_104 : decode (hs_code 172) 104 = .ok (.istore 4, 2) := by decide +kernel
theorem d172_106 : decode (hs_code 172) 106 = .ok (.goto 58, 3) := by decide +kernel
theorem d172_109 : decode (hs_code 172) 109 = .ok (.aload_n 0, 1) := by decide +kernel
theorem d172_110 : decode (hs_code 172) 110 = .ok (.getfield 45, 3) := by decide +kernel
theorem d172_113 : decode (hs_code 172) 113 = .ok (.sipush 300, 3) := by decide +kernel
theorem d172_116 : decode (hs_code 172) 116 = .ok (.if_icmp .lt 11, 3) := by decide +kernel
theorem d172_119 : decode (hs_code 172) 119 = .ok (.aload_n 0, 1) := by decide +kernel
theorem d172_120 : decode (hs_code 172) 120 = .ok (.iconst 1, 1) := by decide +kernel
theorem d172_121 : decode (hs_code 172) 121 = .ok (.putfield 30, 3) := by decide +kernel
theorem d172_124 : decode (hs_code 172) 124 = .ok (.goto 40, 3) := by decide +kernel
theorem d172_127 : decode (hs_code 172) 127 = .ok (.aload_n 0, 1) := by decide +kernel
theorem d172_128 : decode (hs_code 172) 128 = .ok (.dup, 1) := by decide +kernel
theorem d172_129 : decode (hs_code 172) 129 = .ok (.getfield 45, 3) := by decide +kernel
theorem d172_132 : decode (hs_code 172) 132 = .ok (.iconst 1, 1) := by decide +kernel
theorem d172_133 : decode (hs_code 172) 133 = .ok (.iadd, 1) := by decide +kernel
theorem d172_134 : decode (hs_code 172) 134 = .ok (.putfield 45, 3) := by decide +kernel
theorem d172_137 : decode (hs_code 172) 137 = .ok (.aload_n 0, 1) := by decide +kernel
theorem d172_138 : decode (hs_code 172) 138 = .ok (.iload 4, 2) := by decide +kernel
theorem d172_140 : decode (hs_code 172) 140 = .ok (.invokevirtual 58, 3) := by decide +kernel
theorem d172_143 : decode (hs_code 172) 143 = .ok (.ifCond .ne 13, 3) := by decide +kernel
theorem d172_146 : decode (hs_code 172) 146 = .ok (.aload_n 0, 1) := by decide +kernel
theorem d172_147 : decode (hs_code 172) 147 = .ok (.dup, 1) := by decide +kernel
theorem d172_148 : decode (hs_code 172) 148 = .ok (.getfield 17, 3) := by decide +kernel
theorem d172_151 : decode (hs_code 172) 151 = .ok (.iconst 1, 1) := by decide +kernel
theorem d172_152 : decode (hs_code 172) 152 = .ok (.iadd, 1) := by decide +kernel
theorem d172_153 : decode (hs_code 172) 153 = .ok (.putfield 17, 3) := by decide +kernel
theorem d172_156 : decode (hs_code 172) 156 = .ok (.aload_n 0, 1) := by decide +kernel
theorem d172_157 : decode (hs_code 172) 157 = .ok (.iload 4, 2) := by decide +kernel
theorem d172_159 : decode (hs_code 172) 159 = .ok (.invokevirtual 62, 3) := by decide +kernel
theorem d172_162 : decode (hs_code 172) 162 = .ok (.istore 4, 2) := by decide +kernel
theorem d172_164 : decode (hs_code 172) 164 = .ok (.iinc 5 1, 3) := by decide +kernel
theorem d172_167 : decode (hs_code 172) 167 = .ok (.goto (-116), 3) := by decide +kernel
theorem d172_170 : decode (hs_code 172) 170 = .ok (.return_, 1) := by decide +kernel
theorem d173_0 : decode (hs_code 173) 0 = .ok (.aload_n 0, 1) := by decide +kernel
theorem d173_1 : decode (hs_code 173) 1 = .ok (.getfield 34, 3) := by decide +kernel
theorem d173_4 : decode (hs_code 173) 4 = .ok (.getfield 65, 3) := by decide +kernel
theorem d173_7 : decode (hs_code 173) 7 = .ok (.iload_n 1, 1) := by decide +kernel
theorem d173_8 : decode (hs_code 173) 8 = .ok (.iaload, 1) := by decide +kernel
theorem d173_9 : decode (hs_code 173) 9 = .ok (.istore_n 2, 1) := by decide +kernel
theorem d173_10 : decode (hs_code 173) 10 = .ok (.aload_n 0, 1) := by decide +kernel
theorem d173_11 : decode (hs_code 173) 11 = .ok (.getfield 34, 3) := by decide +kernel
theorem d173_14 : decode (hs_code 173) 14 = .ok (.getfield 51, 3) := by decide +kernel
theorem d173_17 : decode (hs_code 173) 17 = .ok (.iload_n 2, 1) := by decide +kernel
theorem d173_18 : decode (hs_code 173) 18 = .ok (.iaload, 1) := by decide +kernel
theorem d173_19 : decode (hs_code 173) 19 = .ok (.bipush 27, 2) := by decide +kernel
theorem d173_21 : decode (hs_code 173) 21 = .ok (.if_icmp .ne 26, 3) := by decide +kernel
theorem d173_24 : decode (hs_code 173) 24 = .ok (.aload_n 0, 1) := by decide +kernel
theorem d173_25 : decode (hs_code 173) 25 = .ok (.getfield 11, 3) := by decide +kernel
theorem d173_28 : decode (hs_code 173) 28 = .ok (.iload_n 2, 1) := by decide +kernel
theorem d173_29 : decode (hs_code 173) 29 = .ok (.dup2, 1) := by decide +kernel
theorem d173_30 : decode (hs_code 173) 30 = .ok (.iaload, 1) := by decide +kernel
theorem d173_31 : decode (hs_code 173) 31 = .ok (.iconst 1, 1) := by decide +kernel
theorem d173_32 : decode (hs_code 173) 32 = .ok (.isub, 1) := by decide +kernel
theorem d173_33 : decode (hs_code 173) 33 = .ok (.iastore, 1) := by decide +kernel
theorem d173_34 : decode (hs_code 173) 34 = .ok (.aload_n 0, 1) := by decide +kernel
theorem d173_35 : decode (hs_code 173) 35 = .ok (.getfield 11, 3) := by decide +kernel
theorem d173_38 : decode (hs_code 173) 38 = .ok (.iload_n 2, 1) := by decide +kernel
theorem d173_39 : decode (hs_code 173) 39 = .ok (.iaload, 1) := by decide +kernel
theorem d173_40 : decode (hs_code 173) 40 = .ok (.ifCond .le 7, 3) := by decide +kernel
theorem d173_43 : decode (hs_code 173) 43 = .ok (.iload_n 2, 1) := by decide +kernel
theorem d173_44 : decode (hs_code 173) 44 = .ok (.iconst 1, 1) := by decide +kernel
theorem d173_45 : decode (hs_code 173) 45 = .ok (.iadd, 1) := by decide +kernel
theorem d173_46 : decode (hs_code 173) 46 = .ok (.ireturn, 1) := by decide +kernel
theorem d173_47 : decode (hs_code 173) 47 = .ok (.iload_n 1, 1) := by decide +kernel
theorem d173_48 : decode (hs_code 173) 48 = .ok (.iconst 1, 1) := by decide +kernel
theorem d173_49 : decode (hs_code 173) 49 = .ok (.iadd, 1) := by decide +kernel
theorem d173_50 : decode (hs_code 173) 50 = .ok (.ireturn, 1) := by decide +kernel
theorem d174_0 : decode (hs_code 174) 0 = .ok (.aload_n 0, 1) := by decide +kernel
theorem d174_1 : decode (hs_code 174) 1 = .ok (.getfield 34, 3) := by decide +kernel
theorem d174_4 : decode (hs_code 174) 4 = .ok (.getfield 74, 3) := by decide +kernel
theorem d174_7 : decode (hs_code 174) 7 = .ok (.iload_n 1, 1) := by decide +kernel
theorem d174_8 : decode (hs_code 174) 8 = .ok (.iaload, 1) := by decide +kernel
theorem d174_9 : decode (hs_code 174) 9 = .ok (.istore_n 2, 1) := by decide +kernel
theorem d174_10 : decode (hs_code 174) 10 = .ok (.aload_n 0, 1) := by decide +kernel
theorem d174_11 : decode (hs_code 174) 11 = .ok (.getfield 34, 3) := by decide +kernel
theorem d174_14 : decode (hs_code 174) 14 = .ok (.getfield 71, 3) := by decide +kernel
theorem d174_17 : decode (hs_code 174) 17 = .ok (.iload_n 1, 1) := by decide +kernel
theorem d174_18 : decode (hs_code 174) 18 = .ok (.iaload, 1) := by decide +kernel
theorem d174_19 : decode (hs_code 174) 19 = .ok (.istore_n 3, 1) := by decide +kernel
theorem d174_20 : decode (hs_code 174) 20 = .ok (.aload_n 0, 1) := by decide +kernel
theorem d174_21 : decode (hs_code 174) 21 = .ok (.getfield 34, 3) := by decide +kernel
theorem d174_24 : decode (hs_code 174) 24 = .ok (.getfield 51, 3) := by decide +kernel
theorem d174_27 : decode (hs_code 174) 27 = .ok (.iload_n 1, 1) := by decide +kernel
theorem d174_28 : decode (hs_code 174) 28 = .ok (.iaload, 1) := by decide +kernel
theorem d174_29 : decode (hs_code 174) 29 = .ok (.tableswitch 113 17 24 #[47, 53, 62, 71, 86, 93, 100, 108], 47) := by decide +kernel
theorem d174_76 : decode (hs_code 174) 76 = .ok (.aload_n 0, 1) := by decide +kernel
theorem d174_77 : decode (hs_code 174) 77 = .ok (.iload_n 3, 1) := by decide +kernel
theorem d174_78 : decode (hs_code 174) 78 = .ok (.invokevirtual 98, 3) := by decide +kernel
theorem d174_81 : decode (hs_code 174) 81 = .ok (.ireturn, 1) := by decide +kernel
theorem d174_82 : decode (hs_code 174) 82 = .ok (.aload_n 0, 1) := by decide +kernel
theorem d174_83 : decode (hs_code 174) 83 = .ok (.getfield 38, 3) := by decide +kernel
theorem d174_86 : decode (hs_code 174) 86 = .ok (.iconst 1, 1) := by decide +kernel
theorem d174_87 : decode (hs_code 174) 87 = .ok (.invokevirtual 101, 3) := by decide +kernel
theorem d174_90 : decode (hs_code 174) 90 = .ok (.ireturn, 1) := by decide +kernel
theorem d174_91 : decode (hs_code 174) 91 = .ok (.aload_n 0, 1) := by decide +kernel
theorem d174_92 : decode (hs_code 174) 92 = .ok (.getfield 38, 3) := by decide +kernel
theorem d174_95 : decode (hs_code 174) 95 = .ok (.iconst 0, 1) := by decide +kernel
theorem d174_96 : decode (hs_code 174) 96 = .ok (.invokevirtual 101, 3) := by decide +kernel
theorem d174_99 : decode (hs_code 174) 99 = .ok (.ireturn, 1) := by decide +kernel
theorem d174_100 : decode (hs_code 174) 100 = .ok (.aload_n 0, 1) := by decide +kernel
theorem d174_101 : decode (hs_code 174) 101 = .ok (.getfield 38, 3) := by decide +kernel
theorem d174_104 : decode (hs_code 174) 104 = .ok (.getfield 86, 3) := by decide +kernel
theorem d174_107 : decode (hs_code 174) 107 = .ok (.getfield 105, 3) := by decide +kernel
theorem d174_110 : decode (hs_code 174) 110 = .ok (.iload_n 2, 1) := by decide +kernel
theorem d174_111 : decode (hs_code 174) 111 = .ok (.iload_n 3, 1) := by decide +kernel
theorem d174_112 : decode (hs_code 174) 112 = .ok (.iastore, 1) := by decide +kernel
theorem d174_113 : decode (hs_code 174) 113 = .ok (.iconst 1, 1) := by decide +kernel
theorem d174_114 : decode (hs_code 174) 114 = .ok (.ireturn, 1) := by decide +kernel
theorem d174_115 : decode (hs_code 174) 115 = .ok (.aload_n 0, 1) := by decide +kernel
theorem d174_116 : decode (hs_code 174) 116 = .ok (.iload_n 2, 1) := by decide +kernel
theorem d174_117 : decode (hs_code 174) 117 = .ok (.iload_n 3, 1) := by decide +kernel
theorem d174_118 : decode (hs_code 174) 118 = .ok (.invokevirtual 108, 3) := by decide +kernel
theorem d174_121 : decode (hs_code 174) 121 = .ok (.ireturn, 1) := by decide +kernel
theorem d174_122 : decode (hs_code 174) 122 = .ok (.aload_n 0, 1) := by decide +kernel
theorem d174_123 : decode (hs_code 174) 123 = .ok (.iload_n 2, 1) := by decide +kernel
theorem d174_124 : decode (hs_code 174) 124 = .ok (.iload_n 3, 1) := by decide +kernel
theorem d174_125 : decode (hs_code 174) 125 = .ok (.invokevirtual 111, 3) := by decide +kernel
theorem d174_128 : decode (hs_code 174) 128 = .ok (.ireturn, 1) := by decide +kernel
theorem d174_129 : decode (hs_code 174) 129 = .ok (.aload_n 0, 1) := by decide +kernel
theorem d174_130 : decode (hs_code 174) 130 = .ok (.getfield 38, 3) := by decide +kernel
theorem d174_133 : decode (hs_code 174) 133 = .ok (.invokevirtual 114, 3) := by decide +kernel
theorem d174_136 : decode (hs_code 174) 136 = .ok (.ireturn, 1) := by decide +kernel
theorem d174_137 : decode (hs_code 174) 137 = .ok (.aload_n 0, 1) := by decide +kernel
theorem d174_138 : decode (hs_code 174) 138 = .ok (.invokevirtual 118, 3) := by decide +kernel
theorem d174_141 : decode (hs_code 174) 141 = .ok (.ireturn, 1) := by decide +kernel
theorem d174_142 : decode (hs_code 174) 142 = .ok (.iconst 1, 1) := by decide +kernel
theorem d174_143 : decode (hs_code 174) 143 = .ok (.ireturn, 1) := by decide +kernel
theorem d175_0 : decode (hs_code 175) 0 = .ok (.aload_n 0, 1) := by decide +kernel
theorem d175_1 : decode (hs_code 175) 1 = .ok (.getfield 38, 3) := by decide +kernel
theorem d175_4 : decode (hs_code 175) 4 = .ok (.iload_n 1, 1) := by decide +kernel
theorem d175_5 : decode (hs_code 175) 5 = .ok (.invokevirtual 121, 3) := by decide +kernel
theorem d175_8 : decode (hs_code 175) 8 = .ok (.ifCond .ne 5, 3) := by decide +kernel
theorem d175_11 : decode (hs_code 175) 11 = .ok (.iconst 0, 1) := by decide +kernel
theorem d175_12 : decode (hs_code 175) 12 = .ok (.ireturn, 1) := by decide +kernel
theorem d175_13 : decode (hs_code 175) 13 = .ok (.aload_n 0, 1) := by decide +kernel
theorem d175_14 : decode (hs_code 175) 14 = .ok (.dup, 1) := by decide +kernel
theorem d175_15 : decode (hs_code 175) 15 = .ok (.getfield 21, 3) := by decide +kernel
theorem d175_18 : decode (hs_code 175) 18 = .ok (.iload_n 1, 1) := by decide +kernel
theorem d175_19 : decode (hs_code 175) 19 = .ok (.iadd, 1) := by decide +kernel
theorem d175_20 : decode (hs_code 175) 20 = .ok (.putfield 21, 3) := by decide +kernel
theorem d175_23 : decode (hs_code 175) 23 = .ok (.iconst 1, 1) := by decide +kernel
theorem d175_24 : decode (hs_code 175) 24 = .ok (.ireturn, 1) := by decide +kernel
theorem d176_0 : decode (hs_code 176) 0 = .ok (.aload_n 0, 1) := by decide +kernel
theorem d176_1 : decode (hs_code 176) 1 = .ok (.getfield 38, 3) := by decide +kernel
theorem d176_4 : decode (hs_code 176) 4 = .ok (.getfield 86, 3) := by decide +kernel
theorem d176_7 : decode (hs_code 176) 7 = .ok (.getfield 90, 3) := by decide +kernel
theorem d176_10 : decode (hs_code 176) 10 = .ok (.iload_n 1, 1) := by decide +kernel
theorem d176_11 : decode (hs_code 176) 11 = .ok (.iaload, 1) := by decide +kernel
theorem d176_12 : decode (hs_code 176) 12 = .ok (.iload_n 2, 1) := by decide +kernel
theorem d176_13 : decode (hs_code 176) 13 = .ok (.if_icmp .gt 5, 3) := by decide +kernel
theorem d176_16 : decode (hs_code 176) 16 = .ok (.iconst 0, 1) := by decide +kernel
theorem d176_17 : decode (hs_code 176) 17 = .ok (.ireturn, 1) := by decide +kernel
theorem d176_18 : decode (hs_code 176) 18 = .ok (.aload_n 0, 1) := by decide +kernel
theorem d176_19 : decode (hs_code 176) 19 = .ok (.dup, 1) := by decide +kernel
theorem d176_20 : decode (hs_code 176) 20 = .ok (.getfield 24, 3) := by decide +kernel
theorem d176_23 : decode (hs_code 176) 23 = .ok (.aload_n 0, 1) := by decide +kernel
theorem d176_24 : decode (hs_code 176) 24 = .ok (.getfield 38, 3) := by decide +kernel
theorem d176_27 : decode (hs_code 176) 27 = .ok (.getfield 86, 3) := by decide +kernel
theorem d176_30 : decode (hs_code 176) 30 = .ok (.iload_n 1, 1) := by decide +kernel
theorem d176_31 : decode (hs_code 176) 31 = .ok (.iload_n 2, 1) := by decide +kernel
theorem d176_32 : decode (hs_code 176) 32 = .ok (.invokevirtual 124, 3) := by decide +kernel
theorem d176_35 : decode (hs_code 176) 35 = .ok (.iadd, 1) := by decide +kernel
theorem d176_36 : decode (hs_code 176) 36 = .ok (.putfield 24, 3) := by decide +kernel
theorem d176_39 : decode (hs_code 176) 39 = .ok (.iconst 1, 1) := by decide +kernel
theorem d176_40 : decode (hs_code 176) 40 = .ok (.ireturn, 1) := by decide +kernel
theorem d177_0 : decode (hs_code 177) 0 = .ok (.aload_n 0, 1) := by decide +kernel
theorem d177_1 : decode (hs_code 177) 1 = .ok (.getfield 38, 3) := by decide +kernel
theorem d177_4 : decode (hs_code 177) 4 = .ok (.iload_n 1, 1) := by decide +kernel
theorem d177_5 : decode (hs_code 177) 5 = .ok (.iload_n 2, 1) := by decide +kernel
theorem d177_6 : decode (hs_code 177) 6 = .ok (.invokevirtual 128, 3) := by decide +kernel
theorem d177_9 : decode (hs_code 177) 9 = .ok (.ifCond .le 12, 3) := by decide +kernel
theorem d177_12 : decode (hs_code 177) 12 = .ok (.aload_n 0, 1) := by decide +kernel
theorem d177_13 : decode (hs_code 177) 13 = .ok (.iload_n 1, 1) := by decide +kernel
theorem d177_14 : decode (hs_code 177) 14 = .ok (.iload_n 2, 1) := by decide +kernel
theorem d177_15 : decode (hs_code 177) 15 = .ok (.invokevirtual 108, 3) := by decide +kernel
theorem d177_18 : decode (hs_code 177) 18 = .ok (.ifCond .ne 5, 3) := by decide +kernel
theorem d177_21 : decode (hs_code 177) 21 = .ok (.iconst 0, 1) := by decide +kernel
theorem d177_22 : decode (hs_code 177) 22 = .ok (.ireturn, 1) := by decide +kernel
theorem d177_23 : decode (hs_code 177) 23 = .ok (.aload_n 0, 1) := by decide +kernel
theorem d177_24 : decode (hs_code 177) 24 = .ok (.dup, 1) := by decide +kernel
theorem d177_25 : decode (hs_code 177) 25 = .ok (.getfield 27, 3) := by decide +kernel
theorem d177_28 : decode (hs_code 177) 28 = .ok (.iconst 1, 1) := by decide +kernel
theorem d177_29 : decode (hs_code 177) 29 = .ok (.iadd, 1) := by decide +kernel
theorem d177_30 : decode (hs_code 177) 30 = .ok (.putfield 27, 3) := by decide +kernel
theorem d177_33 : decode (hs_code 177) 33 = .ok (.iconst 1, 1) := by decide +kernel
theorem d177_34 : decode (hs_code 177) 34 = .ok (.ireturn, 1) := by decide +kernel
theorem d178_0 : decode (hs_code 178) 0 = .ok (.aload_n 0, 1) := by decide +kernel
theorem d178_1 : decode (hs_code 178) 1 = .ok (.getfield 38, 3) := by decide +kernel
theorem d178_4 : decode (hs_code 178) 4 = .ok (.getfield 86, 3) := by decide +kernel
theorem d178_7 : decode (hs_code 178) 7 = .ok (.getfield 131, 3) := by decide +kernel
theorem d178_10 : decode (hs_code 178) 10 = .ok (.istore_n 1, 1) := by decide +kernel
theorem d178_11 : decode (hs_code 178) 11 = .ok (.iload_n 1, 1) := by decide +kernel
theorem d178_12 : decode (hs_code 178) 12 = .ok (.ifCond .gt 5, 3) := by decide +kernel
theorem d178_15 : decode (hs_code 178) 15 = .ok (.iconst 0, 1) := by decide +kernel
theorem d178_16 : decode (hs_code 178) 16 = .ok (.ireturn, 1) := by decide +kernel
theorem d178_17 : decode (hs_code 178) 17 = .ok (.aload_n 0, 1) := by decide +kernel
theorem d178_18 : decode (hs_code 178) 18 = .ok (.iload_n 1, 1) := by decide +kernel
theorem d178_19 : decode (hs_code 178) 19 = .ok (.invokevirtual 134, 3) := by decide +kernel
theorem d178_22 : decode (hs_code 178) 22 = .ok (.istore_n 2, 1) := by decide +kernel
theorem d178_23 : decode (hs_code 178) 23 = .ok (.aload_n 0, 1) := by decide +kernel
theorem d178_24 : decode (hs_code 178) 24 = .ok (.getfield 38, 3) := by decide +kernel
theorem d178_27 : decode (hs_code 178) 27 = .ok (.getfield 86, 3) := by decide +kernel
theorem d178_30 : decode (hs_code 178) 30 = .ok (.getfield 137, 3) := by decide +kernel
theorem d178_33 : decode (hs_code 178) 33 = .ok (.iload_n 2, 1) := by decide +kernel
theorem d178_34 : decode (hs_code 178) 34 = .ok (.aload_n 0, 1) := by decide +kernel
theorem d178_35 : decode (hs_code 178) 35 = .ok (.iconst 3, 1) := by decide +kernel
theorem d178_36 : decode (hs_code 178) 36 = .ok (.invokevirtual 134, 3) := by decide +kernel
theorem d178_39 : decode (hs_code 178) 39 = .ok (.iastore, 1) := by decide +kernel
theorem d178_40 : decode (hs_code 178) 40 = .ok (.iconst 1, 1) := by decide +kernel
theorem d178_41 : decode (hs_code 178) 41 = .ok (.ireturn, 1) := by decide +kernel
theorem d179_0 : decode (hs_code 179) 0 = .ok (.aload_n 0, 1) := by decide +kernel
theorem d179_1 : decode (hs_code 179) 1 = .ok (.aload_n 0, 1) := by decide +kernel
theorem d179_2 : decode (hs_code 179) 2 = .ok (.getfield 42, 3) := by decide +kernel
theorem d179_5 : decode (hs_code 179) 5 = .ok (.sipush 2971, 3) := by decide +kernel
theorem d179_8 : decode (hs_code 179) 8 = .ok (.imul, 1) := by decide +kernel
theorem d179_9 : decode (hs_code 179) 9 = .ok (.sipush 10837, 3) := by decide +kernel
theorem d179_12 : decode (hs_code 179) 12 = .ok (.iadd, 1) := by decide +kernel
theorem d179_13 : decode (hs_code 179) 13 = .ok (.ldc 140, 2) := by decide +kernel
theorem d179_15 : decode (hs_code 179) 15 = .ok (.irem, 1) := by decide +kernel
theorem d179_16 : decode (hs_code 179) 16 = .ok (.putfield 42, 3) := by decide +kernel
theorem d179_19 : decode (hs_code 179) 19 = .ok (.iload_n 1, 1) := by decide +kernel
theorem d179_20 : decode (hs_code 179) 20 = .ok (.ifCond .le 15, 3) := by decide +kernel
theorem d179_23 : decode (hs_code 179) 23 = .ok (.aload_n 0, 1) := by decide +kernel
theorem d179_24 : decode (hs_code 179) 24 = .ok (.getfield 42, 3) := by decide +kernel
theorem d179_27 : decode (hs_code 179) 27 = .ok (.bipush 8, 2) := by decide +kernel
theorem d179_29 : decode (hs_code 179) 29 = .ok (.idiv, 1) := by decide +kernel
theorem d179_30 : decode (hs_code 179) 30 = .ok (.iload_n 1, 1) := by decide +kernel
theorem d179_31 : decode (hs_code 179) 31 = .ok (.irem, 1) := by decide +kernel
theorem d179_32 : decode (hs_code 179) 32 = .ok (.goto 4, 3) := by decide +kernel
theorem d179_35 : decode (hs_code 179) 35 = .ok (.iconst 0, 1) := by decide +kernel
theorem d179_36 : decode (hs_code 179) 36 = .ok (.ireturn, 1) := by decide +kernel
theorem d180_0 : decode (hs_code 180) 0 = .ok (.aload_n 0, 1) := by decide +kernel
theorem d180_1 : decode (hs_code 180) 1 = .ok (.getfield 34, 3) := by decide +kernel
theorem d180_4 : decode (hs_code 180) 4 = .ok (.getfield 51, 3) := by decide +kernel
theorem d180_7 : decode (hs_code 180) 7 = .ok (.iload_n 1, 1) := by decide +kernel
theorem d180_8 : decode (hs_code 180) 8 = .ok (.iaload, 1) := by decide +kernel
theorem d180_9 : decode (hs_code 180) 9 = .ok (.tableswitch 107 25 29 #[43, 107, 69, 107, 35], 35) := by decide +kernel
theorem d180_44 : decode (hs_code 180) 44 = .ok (.aload_n 0, 1) := by decide +kernel
theorem d180_45 : decode (hs_code 180) 45 = .ok (.getfield 34, 3) := by decide +kernel
theorem d180_48 : decode (hs_code 180) 48 = .ok (.getfield 48, 3) := by decide +kernel
theorem d180_51 : decode (hs_code 180) 51 = .ok (.ireturn, 1) := by decide +kernel
theorem d180_52 : decode (hs_code 180) 52 = .ok (.aload_n 0, 1) := by decide +kernel
theorem d180_53 : decode (hs_code 180) 53 = .ok (.iload_n 1, 1) := by decide +kernel
theorem d180_54 : decode (hs_code 180) 54 = .ok (.invokevirtual 68, 3) := by decide +kernel
theorem d180_57 : decode (hs_code 180) 57 = .ok (.ifCond .eq 9, 3) := by decide +kernel
theorem d180_60 : decode (hs_code 180) 60 = .ok (.iload_n 1, 1) := by decide +kernel
theorem d180_61 : decode (hs_code 180) 61 = .ok (.iconst 1, 1) := by decide +kernel
theorem d180_62 : decode (hs_code 180) 62 = .ok (.iadd, 1) := by decide +kernel
theorem d180_63 : decode (hs_code 180) 63 = .ok (.goto 14, 3) := by decide +kernel
theorem d180_66 : decode (hs_code 180) 66 = .ok (.aload_n 0, 1) := by decide +kernel
theorem d180_67 : decode (hs_code 180) 67 = .ok (.getfield 34, 3) := by decide +kernel
theorem d180_70 : decode (hs_code 180) 70 = .ok (.getfield 65, 3) := by decide +kernel
theorem d180_73 : decode (hs_code 180) 73 = .ok (.iload_n 1, 1) := by decide +kernel
theorem d180_74 : decode (hs_code 180) 74 = .ok (.iaload, 1) := by decide +kernel
theorem d180_75 : decode (hs_code 180) 75 = .ok (.iconst 1, 1) := by decide +kernel
theorem d180_76 : decode (hs_code 180) 76 = .ok (.iadd, 1) := by decide +kernel
theorem d180_77 : decode (hs_code 180) 77 = .ok (.ireturn, 1) := by decide +kernel
theorem d180_78 : decode (hs_code 180) 78 = .ok (.aload_n 0, 1) := by decide +kernel
theorem d180_79 : decode (hs_code 180) 79 = .ok (.getfield 11, 3) := by decide +kernel
theorem d180_82 : decode (hs_code 180) 82 = .ok (.iload_n 1, 1) := by decide +kernel
theorem d180_83 : decode (hs_code 180) 83 = .ok (.aload_n 0, 1) := by decide +kernel
theorem d180_84 : decode (hs_code 180) 84 = .ok (.getfield 34, 3) := by decide +kernel
theorem d180_87 : decode (hs_code 180) 87 = .ok (.getfield 65, 3) := by decide +kernel
theorem d180_90 : decode (hs_code 180) 90 = .ok (.iload_n 1, 1) := by decide +kernel
theorem d180_91 : decode (hs_code 180) 91 = .ok (.iaload, 1) := by decide +kernel
theorem d180_92 : decode (hs_code 180) 92 = .ok (.iload_n 1, 1) := by decide +kernel
theorem d180_93 : decode (hs_code 180) 93 = .ok (.iconst 1, 1) := by decide +kernel
theorem d180_94 : decode (hs_code 180) 94 = .ok (.iadd, 1) := by decide +kernel
theorem d180_95 : decode (hs_code 180) 95 = .ok (.if_icmp .ne 7, 3) := by decide +kernel
theorem d180_98 : decode (hs_code 180) 98 = .ok (.iconst 1, 1) := by decide +kernel
theorem d180_99 : decode (hs_code 180) 99 = .ok (.goto 12, 3) := by decide +kernel
theorem d180_102 : decode (hs_code 180) 102 = .ok (.aload_n 0, 1) := by decide +kernel
theorem d180_103 : decode (hs_code 180) 103 = .ok (.getfield 34, 3) := by decide +kernel
theorem d180_106 : decode (hs_code 180) 106 = .ok (.getfield 71, 3) := by decide +kernel
theorem d180_109 : decode (hs_code 180) 109 = .ok (.iload_n 1, 1) := by decide +kernel
theorem d180_110 : decode (hs_code 180) 110 = .ok (.iaload, 1) := by decide +kernel
theorem d180_111 : decode (hs_code 180) 111 = .ok (.iastore, 1) := by decide +kernel
theorem d180_112 : decode (hs_code 180) 112 = .ok (.iload_n 1, 1) := by decide +kernel
theorem d180_113 : decode (hs_code 180) 113 = .ok (.iconst 1, 1) := by decide +kernel
theorem d180_114 : decode (hs_code 180) 114 = .ok (.iadd, 1) := by decide +kernel
theorem d180_115 : decode (hs_code 180) 115 = .ok (.ireturn, 1) := by decide +kernel
theorem d180_116 : decode (hs_code 180) 116 = .ok (.iload_n 1, 1) := by decide +kernel
theorem d180_117 : decode (hs_code 180) 117 = .ok (.iconst 1, 1) := by decide +kernel
theorem d180_118 : decode (hs_code 180) 118 = .ok (.iadd, 1) := by decide +kernel
theorem d180_119 : decode (hs_code 180) 119 = .ok (.ireturn, 1) := by decide +kernel
theorem d181_72 : decode (hs_code 181) 72 = .ok (.aload_n 0, 1) := by decide +kernel
theorem d181_73 : decode (hs_code 181) 73 = .ok (.getfield 38, 3) := by decide +kernel
theorem d181_76 : decode (hs_code 181) 76 = .ok (.iload_n 2, 1) := by decide +kernel
theorem d181_77 : decode (hs_code 181) 77 = .ok (.iconst 0, 1) := by decide +kernel
theorem d181_78 : decode (hs_code 181) 78 = .ok (.invokevirtual 80, 3) := by decide +kernel
theorem d181_81 : decode (hs_code 181) 81 = .ok (.ireturn, 1) := by decide +kernel
theorem d181_82 : decode (hs_code 181) 82 = .ok (.aload_n 0, 1) := by decide +kernel
theorem d181_83 : decode (hs_code 181) 83 = .ok (.getfield 38, 3) := by decide +kernel
theorem d181_86 : decode (hs_code 181) 86 = .ok (.getfield 86, 3) := by decide +kernel
theorem d181_89 : decode (hs_code 181) 89 = .ok (.getfield 90, 3) := by decide +kernel
theorem d181_92 : decode (hs_code 181) 92 = .ok (.iload_n 2, 1) := by decide +kernel
theorem d181_93 : decode (hs_code 181) 93 = .ok (.iaload, 1) := by decide +kernel
theorem d181_94 : decode (hs_code 181) 94 = .ok (.iload_n 3, 1) := by decide +kernel
theorem d181_95 : decode (hs_code 181) 95 = .ok (.if_icmp .ge 7, 3) := by decide +kernel
theorem d181_98 : decode (hs_code 181) 98 = .ok (.iconst 1, 1) := by decide +kernel
theorem d181_99 : decode (hs_code 181) 99 = .ok (.goto 4, 3) := by decide +kernel
theorem d181_102 : decode (hs_code 181) 102 = .ok (.iconst 0, 1) := by decide +kernel
theorem d181_103 : decode (hs_code 181) 103 = .ok (.ireturn, 1) := by decide +kernel
theorem d181_104 : decode (hs_code 181) 104 = .ok (.aload_n 0, 1) := by decide +kernel
theorem d181_105 : decode (hs_code 181) 105 = .ok (.getfield 38, 3) := by decide +kernel
theorem d181_108 : decode (hs_code 181) 108 = .ok (.getfield 86, 3) := by decide +kernel
theorem d181_111 : decode (hs_code 181) 111 = .ok (.getfield 90, 3) := by decide +kernel
theorem d181_114 : decode (hs_code 181) 114 = .ok (.iload_n 2, 1) := by decide +kernel
theorem d181_115 : decode (hs_code 181) 115 = .ok (.iaload, 1) := by decide +kernel
theorem d181_116 : decode (hs_code 181) 116 = .ok (.iload_n 3, 1) := by decide +kernel
theorem d181_117 : decode (hs_code 181) 117 = .ok (.if_icmp .le 7, 3) := by decide +kernel
theorem d181_120 : decode (hs_code 181) 120 = .ok (.iconst 1, 1) := by decide +kernel
theorem d181_121 : decode (hs_code 181) 121 = .ok (.goto 4, 3) := by decide +kernel
theorem d181_124 : decode (hs_code 181) 124 = .ok (.iconst 0, 1) := by decide +kernel
theorem d181_125 : decode (hs_code 181) 125 = .ok (.ireturn, 1) := by decide +kernel
theorem d181_126 : decode (hs_code 181) 126 = .ok (.aload_n 0, 1) := by decide +kernel
theorem d181_127 : decode (hs_code 181) 127 = .ok (.getfield 38, 3) := by decide +kernel
theorem d181_130 : decode (hs_code 181) 130 = .ok (.getfield 86, 3) := by decide +kernel
theorem d181_133 : decode (hs_code 181) 133 = .ok (.getfield 90, 3) := by decide +kernel
theorem d181_136 : decode (hs_code 181) 136 = .ok (.iload_n 2, 1) := by decide +kernel
theorem d181_137 : decode (hs_code 181) 137 = .ok (.iaload, 1) := by decide +kernel
theorem d181_138 : decode (hs_code 181) 138 = .ok (.iload_n 3, 1) := by decide +kernel
theorem d181_139 : decode (hs_code 181) 139 = .ok (.if_icmp .ne 7, 3) := by decide +kernel
theorem d181_142 : decode (hs_code 181) 142 = .ok (.iconst 1, 1) := by decide +kernel
theorem d181_143 : decode (hs_code 181) 143 = .ok (.goto 4, 3) := by decide +kernel
theorem d181_146 : decode (hs_code 181) 146 = .ok (.iconst 0, 1) := by decide +kernel
theorem d181_147 : decode (hs_code 181) 147 = .ok (.ireturn, 1) := by decide +kernel
theorem d181_148 : decode (hs_code 181) 148 = .ok (.aload_n 0, 1) := by decide +kernel
theorem d181_149 : decode (hs_code 181) 149 = .ok (.getfield 38, 3) := by decide +kernel
theorem d181_152 : decode (hs_code 181) 152 = .ok (.getfield 95, 3) := by decide +kernel
theorem d181_155 : decode (hs_code 181) 155 = .ok (.ireturn, 1) := by decide +kernel
theorem d183_0 : decode (hs_code 183) 0 = .ok (.iload_n 1, 1) := by decide +kernel
theorem d183_1 : decode (hs_code 183) 1 = .ok (.tableswitch 51 0 3 #[31, 36, 41, 46], 31) := by decide +kernel
theorem d183_32 : decode (hs_code 183) 32 = .ok (.aload_n 0, 1) := by decide +kernel
theorem d183_33 : decode (hs_code 183) 33 = .ok (.getfield 17, 3) := by decide +kernel
theorem d183_36 : decode (hs_code 183) 36 = .ok (.ireturn, 1) := by decide +kernel
theorem d183_37 : decode (hs_code 183) 37 = .ok (.aload_n 0, 1) := by decide +kernel
theorem d183_38 : decode (hs_code 183) 38 = .ok (.getfield 21, 3) := by decide +kernel
theorem d183_41 : decode (hs_code 183) 41 = .ok (.ireturn, 1) := by decide +kernel
theorem d183_42 : decode (hs_code 183) 42 = .ok (.aload_n 0, 1) := by decide +kernel
theorem d183_43 : decode (hs_code 183) 43 = .ok (.getfield 24, 3) := by decide +kernel
theorem d183_46 : decode (hs_code 183) 46 = .ok (.ireturn, 1) := by decide +kernel
theorem d183_47 : decode (hs_code 183) 47 = .ok (.aload_n 0, 1) := by decide +kernel
theorem d183_48 : decode (hs_code 183) 48 = .ok (.getfield 27, 3) := by decide +kernel
theorem d183_51 : decode (hs_code 183) 51 = .ok (.ireturn, 1) := by decide +kernel
theorem d183_52 : decode (hs_code 183) 52 = .ok (.aload_n 0, 1) := by decide +kernel
theorem d183_53 : decode (hs_code 183) 53 = .ok (.getfield 30, 3) := by decide +kernel
theorem d183_56 : decode (hs_code 183) 56 = .ok (.ifCond .eq 7, 3) := by decide +kernel
theorem d183_59 : decode (hs_code 183) 59 = .ok (.iconst 1, 1) := by decide +kernel
theorem d183_60 : decode (hs_code 183) 60 = .ok (.goto 4, 3) := by decide +kernel
theorem d183_63 : decode (hs_code 183) 63 = .ok (.iconst 0, 1) := by decide +kernel
theorem d183_64 : decode (hs_code 183) 64 = .ok (.ireturn, 1) := by decide +kernel
theorem d185_0 : decode (hs_code 185) 0 = .ok (.aload_n 0, 1) := by decide +kernel
theorem d185_1 : decode (hs_code 185) 1 = .ok (.getfield 12, 3) := by decide +kernel
theorem d185_4 : decode (hs_code 185) 4 = .ok (.aload_n 1, 1) := by decide +kernel
theorem d185_5 : decode (hs_code 185) 5 = .ok (.getfield 12, 3) := by decide +kernel
theorem d185_8 : decode (hs_code 185) 8 = .ok (.invokevirtual 83, 3) := by decide +kernel
theorem d185_11 : decode (hs_code 185) 11 = .ok (.aload_n 0, 1) := by decide +kernel
theorem d185_12 : decode (hs_code 185) 12 = .ok (.getfield 21, 3) := by decide +kernel
theorem d185_15 : decode (hs_code 185) 15 = .ok (.aload_n 1, 1) := by decide +kernel
theorem d185_16 : decode (hs_code 185) 16 = .ok (.getfield 21, 3) := by decide +kernel
theorem d185_19 : decode (hs_code 185) 19 = .ok (.invokevirtual 87, 3) := by decide +kernel
theorem d185_22 : decode (hs_code 185) 22 = .ok (.aload_n 1, 1) := by decide +kernel
theorem d185_23 : decode (hs_code 185) 23 = .ok (.getfield 25, 3) := by decide +kernel
theorem d185_26 : decode (hs_code 185) 26 = .ok (.iconst 0, 1) := by decide +kernel
theorem d185_27 : decode (hs_code 185) 27 = .ok (.aload_n 0, 1) := by decide +kernel
theorem d185_28 : decode (hs_code 185) 28 = .ok (.getfield 25, 3) := by decide +kernel
theorem d185_31 : decode (hs_code 185) 31 = .ok (.iconst 0, 1) := by decide +kernel
theorem d185_32 : decode (hs_code 185) 32 = .ok (.iconst 5, 1) := by decide +kernel
theorem d185_33 : decode (hs_code 185) 33 = .ok (.invokestatic 90, 3) := by decide +kernel
theorem d185_36 : decode (hs_code 185) 36 = .ok (.aload_n 1, 1) := by decide +kernel
theorem d185_37 : decode (hs_code 185) 37 = .ok (.getfield 29, 3) := by decide +kernel
theorem d185_40 : decode (hs_code 185) 40 = .ok (.iconst 0, 1) := by decide +kernel
theorem d185_41 : decode (hs_code 185) 41 = .ok (.aload_n 0, 1) := by decide +kernel
theorem d185_42 : decode (hs_code 185) 42 = .ok (.getfield 29, 3) := by decide +kernel
theorem d185_45 : decode (hs_code 185) 45 = .ok (.iconst 0, 1) := by decide +kernel
theorem d185_46 : decode (hs_code 185) 46 = .ok (.iconst 5, 1) := by decide +kernel
theorem d185_47 : decode (hs_code 185) 47 = .ok (.invokestatic 90, 3) := by decide +kernel
theorem d185_50 : decode (hs_code 185) 50 = .ok (.aload_n 1, 1) := by decide +kernel
theorem d185_51 : decode (hs_code 185) 51 = .ok (.getfield 32, 3) := by decide +kernel
theorem d185_54 : decode (hs_code 185) 54 = .ok (.iconst 0, 1) := by decide +kernel
theorem d185_55 : decode (hs_code 185) 55 = .ok (.aload_n 0, 1) := by decide +kernel
theorem d185_56 : decode (hs_code 185) 56 = .ok (.getfield 32, 3) := by decide +kernel
theorem d185_59 : decode (hs_code 185) 59 = .ok (.iconst 0, 1) := by decide +kernel
theorem d185_60 : decode (hs_code 185) 60 = .ok (.bipush 6, 2) := by decide +kernel
theorem d185_62 : decode (hs_code 185) 62 = .ok (.invokestatic 90, 3) := by decide +kernel
theorem d185_65 : decode (hs_code 185) 65 = .ok (.aload_n 1, 1) := by decide +kernel
theorem d185_66 : decode (hs_code 185) 66 = .ok (.getfield 35, 3) := by decide +kernel
theorem d185_69 : decode (hs_code 185) 69 = .ok (.iconst 0, 1) := by decide +kernel
theorem d185_70 : decode (hs_code 185) 70 = .ok (.aload_n 0, 1) := by decide +kernel
theorem d185_71 : decode (hs_code 185) 71 = .ok (.getfield 35, 3) := by decide +kernel
theorem d185_74 : decode (hs_code 185) 74 = .ok (.iconst 0, 1) := by decide +kernel
theorem d185_75 : decode (hs_code 185) 75 = .ok (.bipush 48, 2) := by decide +kernel
theorem d185_77 : decode (hs_code 185) 77 = .ok (.invokestatic 90, 3) := by decide +kernel
theorem d185_80 : decode (hs_code 185) 80 = .ok (.aload_n 1, 1) := by decide +kernel
theorem d185_81 : decode (hs_code 185) 81 = .ok (.getfield 38, 3) := by decide +kernel
theorem d185_84 : decode (hs_code 185) 84 = .ok (.iconst 0, 1) := by decide +kernel
theorem d185_85 : decode (hs_code 185) 85 = .ok (.aload_n 0, 1) := by decide +kernel
theorem d185_86 : decode (hs_code 185) 86 = .ok (.getfield 38, 3) := by decide +kernel
theorem d185_89 : decode (hs_code 185) 89 = .ok (.iconst 0, 1) := by decide +kernel
theorem d185_90 : decode (hs_code 185) 90 = .ok (.bipush 10, 2) := by decide +kernel
theorem d185_92 : decode (hs_code 185) 92 = .ok (.invokestatic 90, 3) := by decide +kernel
theorem d185_95 : decode (hs_code 185) 95 = .ok (.aload_n 1, 1) := by decide +kernel
theorem d185_96 : decode (hs_code 185) 96 = .ok (.getfield 41, 3) := by decide +kernel
theorem d185_99 : decode (hs_code 185) 99 = .ok (.iconst 0, 1) := by decide +kernel
theorem d185_100 : decode (hs_code 185) 100 = .ok (.aload_n 0, 1) := by decide +kernel
theorem d185_101 : decode (hs_code 185) 101 = .ok (.getfield 41, 3) := by decide +kernel
theorem d185_104 : decode (hs_code 185) 104 = .ok (.iconst 0, 1) := by decide +kernel
theorem d185_105 : decode (hs_code 185) 105 = .ok (.bipush 10, 2) := by decide +kernel
theorem d185_107 : decode (hs_code 185) 107 = .ok (.invokestatic 90, 3) := by decide +kernel
theorem d185_110 : decode (hs_code 185) 110 = .ok (.aload_n 0, 1) := by decide +kernel
theorem d185_111 : decode (hs_code 185) 111 = .ok (.aload_n 1, 1) := by decide +kernel
theorem d185_112 : decode (hs_code 185) 112 = .ok (.getfield 52, 3) := by decide +kernel
theorem d185_115 : decode (hs_code 185) 115 = .ok (.putfield 52, 3) := by decide +kernel
theorem d185_118 : decode (hs_code 185) 118 = .ok (.aload_n 0, 1) := by decide +kernel
theorem d185_119 : decode (hs_code 185) 119 = .ok (.aload_n 1, 1) := by decide +kernel
theorem d185_120 : decode (hs_code 185) 120 = .ok (.getfield 55, 3) := by decide +kernel
theorem d185_123 : decode (hs_code 185) 123 = .ok (.putfield 55, 3) := by decide +kernel
theorem d185_126 : decode (hs_code 185) 126 = .ok (.aload_n 0, 1) := by decide +kernel
theorem d185_127 : decode (hs_code 185) 127 = .ok (.aload_n 1, 1) := by decide +kernel
theorem d185_128 : decode (hs_code 185) 128 = .ok (.getfield 58, 3) := by decide +kernel
theorem d185_131 : decode (hs_code 185) 131 = .ok (.putfield 58, 3) := by decide +kernel
theorem d185_134 : decode (hs_code 185) 134 = .ok (.aload_n 0, 1) := by decide +kernel
theorem d185_135 : decode (hs_code 185) 135 = .ok (.aload_n 1, 1) := by decide +kernel
theorem d185_136 : decode (hs_code 185) 136 = .ok (.getfield 61, 3) := by decide +kernel
theorem d185_139 : decode (hs_code 185) 139 = .ok (.putfield 61, 3) := by decide +kernel
theorem d185_142 : decode (hs_code 185) 142 = .ok (.aload_n 0, 1) := by decide +kernel
theorem d185_143 : decode (hs_code 185) 143 = .ok (.aload_n 1, 1) := by decide +kernel
theorem d185_144 : decode (hs_code 185) 144 = .ok (.getfield 64, 3) := by decide +kernel
theorem d185_147 : decode (hs_code 185) 147 = .ok (.putfield 64, 3) := by decide +kernel
theorem d185_150 : decode (hs_code 185) 150 = .ok (.aload_n 0, 1) := by decide +kernel
theorem d185_151 : decode (hs_code 185) 151 = .ok (.aload_n 1, 1) := by decide +kernel
theorem d185_152 : decode (hs_code 185) 152 = .ok (.getfield 67, 3) := by decide +kernel
theorem d185_155 : decode (hs_code 185) 155 = .ok (.putfield 67, 3) := by decide +kernel
theorem d185_158 : decode (hs_code 185) 158 = .ok (.aload_n 0, 1) := by decide +kernel
theorem d185_159 : decode (hs_code 185) 159 = .ok (.aload_n 1, 1) := by decide +kernel
theorem d185_160 : decode (hs_code 185) 160 = .ok (.getfield 70, 3) := by decide +kernel
theorem d185_163 : decode (hs_code 185) 163 = .ok (.putfield 70, 3) := by decide +kernel
theorem d185_166 : decode (hs_code 185) 166 = .ok (.aload_n 0, 1) := by decide +kernel
theorem d185_167 : decode (hs_code 185) 167 = .ok (.aload_n 1, 1) := by decide +kernel
theorem d185_168 : decode (hs_code 185) 168 = .ok (.getfield 73, 3) := by decide +kernel
theorem d185_171 : decode (hs_code 185) 171 = .ok (.putfield 73, 3) := by decide +kernel
theorem d185_174 : decode (hs_code 185) 174 = .ok (.aload_n 0, 1) := by decide +kernel
theorem d185_175 : decode (hs_code 185) 175 = .ok (.aload_n 1, 1) := by decide +kernel
theorem d185_176 : decode (hs_code 185) 176 = .ok (.getfield 76, 3) := by decide +kernel
theorem d185_179 : decode (hs_code 185) 179 = .ok (.putfield 76, 3) := by decide +kernel
theorem d185_182 : decode (hs_code 185) 182 = .ok (.aload_n 0, 1) := by decide +kernel
theorem d185_183 : decode (hs_code 185) 183 = .ok (.aload_n 1, 1) := by decide +kernel
theorem d185_184 : decode (hs_code 185) 184 = .ok (.getfield 80, 3) := by decide +kernel
theorem d185_187 : decode (hs_code 185) 187 = .ok (.putfield 80, 3) := by decide +kernel
theorem d185_190 : decode (hs_code 185) 190 = .ok (.return_, 1) := by decide +kernel
theorem d186_0 : decode (hs_code 186) 0 = .ok (.aload_n 0, 1) := by decide +kernel
theorem d186_1 : decode (hs_code 186) 1 = .ok (.aload_n 1, 1) := by decide +kernel
theorem d186_2 : decode (hs_code 186) 2 = .ok (.getfield 22, 3) := by decide +kernel
theorem d186_5 : decode (hs_code 186) 5 = .ok (.putfield 22, 3) := by decide +kernel
theorem d186_8 : decode (hs_code 186) 8 = .ok (.aload_n 1, 1) := by decide +kernel
theorem d186_9 : decode (hs_code 186) 9 = .ok (.getfield 9, 3) := by decide +kernel
theorem d186_12 : decode (hs_code 186) 12 = .ok (.iconst 0, 1) := by decide +kernel
theorem d186_13 : decode (hs_code 186) 13 = .ok (.aload_n 0, 1) := by decide +kernel
theorem d186_14 : decode (hs_code 186) 14 = .ok (.getfield 9, 3) := by decide +kernel
theorem d186_17 : decode (hs_code 186) 17 = .ok (.iconst 0, 1) := by decide +kernel
theorem d186_18 : decode (hs_code 186) 18 = .ok (.bipush 31, 2) := by decide +kernel
theorem d186_20 : decode (hs_code 186) 20 = .ok (.invokestatic 26, 3) := by decide +kernel
theorem d186_23 : decode (hs_code 186) 23 = .ok (.aload_n 1, 1) := by decide +kernel
theorem d186_24 : decode (hs_code 186) 24 = .ok (.getfield 15, 3) := by decide +kernel
theorem d186_27 : decode (hs_code 186) 27 = .ok (.iconst 0, 1) := by decide +kernel
theorem d186_28 : decode (hs_code 186) 28 = .ok (.aload_n 0, 1) := by decide +kernel
theorem d186_29 : decode (hs_code 186) 29 = .ok (.getfield 15, 3) := by decide +kernel
theorem d186_32 : decode (hs_code 186) 32 = .ok (.iconst 0, 1) := by decide +kernel
theorem d186_33 : decode (hs_code 186) 33 = .ok (.bipush 31, 2) := by decide +kernel
theorem d186_35 : decode (hs_code 186) 35 = .ok (.invokestatic 26, 3) := by decide +kernel
theorem d186_38 : decode (hs_code 186) 38 = .ok (.aload_n 1, 1) := by decide +kernel
theorem d186_39 : decode (hs_code 186) 39 = .ok (.getfield 19, 3) := by decide +kernel
theorem d186_42 : decode (hs_code 186) 42 = .ok (.iconst 0, 1) := by decide +kernel
theorem d186_43 : decode (hs_code 186) 43 = .ok (.aload_n 0, 1) := by decide +kernel
theorem d186_44 : decode (hs_code 186) 44 = .ok (.getfield 19, 3) := by decide +kernel
theorem d186_47 : decode (hs_code 186) 47 = .ok (.iconst 0, 1) := by decide +kernel
theorem d186_48 : decode (hs_code 186) 48 = .ok (.bipush 31, 2) := by decide +kernel
theorem d186_50 : decode (hs_code 186) 50 = .ok (.invokestatic 26, 3) := by decide +kernel
theorem d186_53 : decode (hs_code 186) 53 = .ok (.return_, 1) := by decide +kernel
theorem d187_0 : decode (hs_code 187) 0 = .ok (.aload_n 0, 1) := by decide +kernel
theorem d187_1 : decode (hs_code 187) 1 = .ok (.aload_n 1, 1) := by decide +kernel
theorem d187_2 : decode (hs_code 187) 2 = .ok (.getfield 24, 3) := by decide +kernel
theorem d187_5 : decode (hs_code 187) 5 = .ok (.putfield 24, 3) := by decide +kernel
theorem d187_8 : decode (hs_code 187) 8 = .ok (.aload_n 1, 1) := by decide +kernel
theorem d187_9 : decode (hs_code 187) 9 = .ok (.getfield 9, 3) := by decide +kernel
theorem d187_12 : decode (hs_code 187) 12 = .ok (.iconst 0, 1) := by decide +kernel
theorem d187_13 : decode (hs_code 187) 13 = .ok (.aload_n 0, 1) := by decide +kernel
theorem d187_14 : decode (hs_code 187) 14 = .ok (.getfield 9, 3) := by decide +kernel
theorem d187_17 : decode (hs_code 187) 17 = .ok (.iconst 0, 1) := by decide +kernel
theorem d187_18 : decode (hs_code 187) 18 = .ok (.bipush 8, 2) := by decide +kernel
theorem d187_20 : decode (hs_code 187) 20 = .ok (.invokestatic 28, 3) := by decide +kernel
theorem d187_23 : decode (hs_code 187) 23 = .ok (.aload_n 1, 1) := by decide +kernel
theorem d187_24 : decode (hs_code 187) 24 = .ok (.getfield 15, 3) := by decide +kernel
theorem d187_27 : decode (hs_code 187) 27 = .ok (.iconst 0, 1) := by decide +kernel
theorem d187_28 : decode (hs_code 187) 28 = .ok (.aload_n 0, 1) := by decide +kernel
theorem d187_29 : decode (hs_code 187) 29 = .ok (.getfield 15, 3) := by decide +kernel
theorem d187_32 : decode (hs_code 187) 32 = .ok (.iconst 0, 1) := by decide +kernel
theorem d187_33 : decode (hs_code 187) 33 = .ok (.bipush 8, 2) := by decide +kernel
theorem d187_35 : decode (hs_code 187) 35 = .ok (.invokestatic 28, 3) := by decide +kernel
theorem d187_38 : decode (hs_code 187) 38 = .ok (.aload_n 1, 1) := by decide +kernel
theorem d187_39 : decode (hs_code 187) 39 = .ok (.getfield 18, 3) := by decide +kernel
theorem d187_42 : decode (hs_code 187) 42 = .ok (.iconst 0, 1) := by decide +kernel
theorem d187_43 : decode (hs_code 187) 43 = .ok (.aload_n 0, 1) := by decide +kernel
theorem d187_44 : decode (hs_code 187) 44 = .ok (.getfield 18, 3) := by decide +kernel
theorem d187_47 : decode (hs_code 187) 47 = .ok (.iconst 0, 1) := by decide +kernel
theorem d187_48 : decode (hs_code 187) 48 = .ok (.bipush 8, 2) := by decide +kernel
theorem d187_50 : decode (hs_code 187) 50 = .ok (.invokestatic 28, 3) := by decide +kernel
theorem d187_53 : decode (hs_code 187) 53 = .ok (.aload_n 1, 1) := by decide +kernel
theorem d187_54 : decode (hs_code 187) 54 = .ok (.getfield 21, 3) := by decide +kernel
theorem d187_57 : decode (hs_code 187) 57 = .ok (.iconst 0, 1) := by decide +kernel
theorem d187_58 : decode (hs_code 187) 58 = .ok (.aload_n 0, 1) := by decide +kernel
theorem d187_59 : decode (hs_code 187) 59 = .ok (.getfield 21, 3) := by decide +kernel
theorem d187_62 : decode (hs_code 187) 62 = .ok (.iconst 0, 1) := by decide +kernel
theorem d187_63 : decode (hs_code 187) 63 = .ok (.bipush 8, 2) := by decide +kernel
theorem d187_65 : decode (hs_code 187) 65 = .ok (.invokestatic 28, 3) := by decide +kernel
theorem d187_68 : decode (hs_code 187) 68 = .ok (.return_, 1) := by decide +kernel
theorem d189_0 : decode (hs_code 189) 0 = .ok (.aload_n 0, 1) := by decide +kernel
theorem d189_1 : decode (hs_code 189) 1 = .ok (.aload_n 1, 1) := by decide +kernel
theorem d189_2 : decode (hs_code 189) 2 = .ok (.getfield 27, 3) := by decide +kernel
theorem d189_5 : decode (hs_code 189) 5 = .ok (.putfield 27, 3) := by decide +kernel
theorem d189_8 : decode (hs_code 189) 8 = .ok (.aload_n 0, 1) := by decide +kernel
theorem d189_9 : decode (hs_code 189) 9 = .ok (.aload_n 1, 1) := by decide +kernel
theorem d189_10 : decode (hs_code 189) 10 = .ok (.getfield 31, 3) := by decide +kernel
theorem d189_13 : decode (hs_code 189) 13 = .ok (.putfield 31, 3) := by decide +kernel
theorem d189_16 : decode (hs_code 189) 16 = .ok (.aload_n 0, 1) := by decide +kernel
theorem d189_17 : decode (hs_code 189) 17 = .ok (.aload_n 1, 1) := by decide +kernel
theorem d189_18 : decode (hs_code 189) 18 = .ok (.getfield 34, 3) := by decide +kernel
theorem d189_21 : decode (hs_code 189) 21 = .ok (.putfield 34, 3) := by decide +kernel
theorem d189_24 : decode (hs_code 189) 24 = .ok (.aload_n 1, 1) := by decide +kernel
theorem d189_25 : decode (hs_code 189) 25 = .ok (.getfield 11, 3) := by decide +kernel
theorem d189_28 : decode (hs_code 189) 28 = .ok (.iconst 0, 1) := by decide +kernel
theorem d189_29 : decode (hs_code 189) 29 = .ok (.aload_n 0, 1) := by decide +kernel
theorem d189_30 : decode (hs_code 189) 30 = .ok (.getfield 11, 3) := by decide +kernel
theorem d189_33 : decode (hs_code 189) 33 = .ok (.iconst 0, 1) := by decide +kernel
theorem d189_34 : decode (hs_code 189) 34 = .ok (.bipush 60, 2) := by decide +kernel
theorem d189_36 : decode (hs_code 189) 36 = .ok (.invokestatic 38, 3) := by decide +kernel
theorem d189_39 : decode (hs_code 189) 39 = .ok (.aload_n 1, 1) := by decide +kernel
theorem d189_40 : decode (hs_code 189) 40 = .ok (.getfield 15, 3) := by decide +kernel
theorem d189_43 : decode (hs_code 189) 43 = .ok (.iconst 0, 1) := by decide +kernel
theorem d189_44 : decode (hs_code 189) 44 = .ok (.aload_n 0, 1) := by decide +kernel
theorem d189_45 : decode (hs_code 189) 45 = .ok (.getfield 15, 3) := by decide +kernel
theorem d189_48 : decode (hs_code 189) 48 = .ok (.iconst 0, 1) := by decide +kernel
theorem d189_49 : decode (hs_code 189) 49 = .ok (.bipush 60, 2) := by decide +kernel
theorem d189_51 : decode (hs_code 189) 51 = .ok (.invokestatic 38, 3) := by decide +kernel
theorem d189_54 : decode (hs_code 189) 54 = .ok (.aload_n 1, 1) := by decide +kernel
theorem d189_55 : decode (hs_code 189) 55 = .ok (.getfield 18, 3) := by decide +kernel
theorem d189_58 : decode (hs_code 189) 58 = .ok (.iconst 0, 1) := by decide +kernel
theorem d189_59 : decode (hs_code 189) 59 = .ok (.aload_n 0, 1) := by decide +kernel
theorem d189_60 : decode (hs_code 189) 60 = .ok (.getfield 18, 3) := by decide +kernel
theorem d189_63 : decode (hs_code 189) 63 = .ok (.iconst 0, 1) := by decide +kernel
theorem d189_64 : decode (hs_code 189) 64 = .ok (.bipush 60, 2) := by decide +kernel
theorem d189_66 : decode (hs_code 189) 66 = .ok (.invokestatic 38, 3) := by decide +kernel
theorem d189_69 : decode (hs_code 189) 69 = .ok (.aload_n 1, 1) := by decide +kernel
theorem d189_70 : decode (hs_code 189) 70 = .ok (.getfield 21, 3) := by decide +kernel
theorem d189_73 : decode (hs_code 189) 73 = .ok (.iconst 0, 1) := by decide +kernel
theorem d189_74 : decode (hs_code 189) 74 = .ok (.aload_n 0, 1) := by decide +kernel
theorem d189_75 : decode (hs_code 189) 75 = .ok (.getfield 21, 3) := by decide +kernel
theorem d189_78 : decode (hs_code 189) 78 = .ok (.iconst 0, 1) := by decide +kernel
theorem d189_79 : decode (hs_code 189) 79 = .ok (.bipush 60, 2) := by decide +kernel
theorem d189_81 : decode (hs_code 189) 81 = .ok (.invokestatic 38, 3) := by decide +kernel
theorem d189_84 : decode (hs_code 189) 84 = .ok (.aload_n 1, 1) := by decide +kernel
theorem d189_85 : decode (hs_code 189) 85 = .ok (.getfield 24, 3) := by decide +kernel
theorem d189_88 : decode (hs_code 189) 88 = .ok (.iconst 0, 1) := by decide +kernel
theorem d189_89 : decode (hs_code 189) 89 = .ok (.aload_n 0, 1) := by decide +kernel
theorem d189_90 : decode (hs_code 189) 90 = .ok (.getfield 24, 3) := by decide +kernel
theorem d189_93 : decode (hs_code 189) 93 = .ok (.iconst 0, 1) := by decide +kernel
theorem d189_94 : decode (hs_code 189) 94 = .ok (.bipush 60, 2) := by decide +kernel
theorem d189_96 : decode (hs_code 189) 96 = .ok (.invokestatic 38, 3) := by decide +kernel
theorem d189_99 : decode (hs_code 189) 99 = .ok (.return_, 1) := by decide +kernel
theorem f85_18 : hs_fld (hs_own 85) 18 = some (1, 2, 3, 1) := by decide +kernel
theorem f85_24 : hs_fld (hs_own 85) 24 = some (1, 4, 0, 0) := by decide +kernel
theorem f86_9 : hs_fld (hs_own 86) 9 = some (1, 0, 3, 1) := by decide +kernel
theorem f86_24 : hs_fld (hs_own 86) 24 = some (1, 4, 0, 0) := by decide +kernel
theorem f87_25 : hs_fld (hs_own 87) 25 = some (4, 2, 3, 1) := by decide +kernel
theorem f87_52 : hs_fld (hs_own 87) 52 = some (4, 8, 0, 0) := by decide +kernel
theorem f96_35 : hs_fld (hs_own 96) 35 = some (4, 5, 3, 1) := by decide +kernel
theorem f100_21 : hs_fld (hs_own 100) 21 = some (4, 1, 3, 1) := by decide +kernel
theorem f100_73 : hs_fld (hs_own 100) 73 = some (4, 15, 0, 0) := by decide +kernel
theorem f100_76 : hs_fld (hs_own 100) 76 = some (4, 16, 1, 0) := by decide +kernel
theorem f101_32 : hs_fld (hs_own 101) 32 = some (4, 4, 3, 1) := by decide +kernel
theorem f101_55 : hs_fld (hs_own 101) 55 = some (4, 9, 0, 0) := by decide +kernel
theorem f101_80 : hs_fld (hs_own 101) 80 = some (4, 17, 0, 0) := by decide +kernel
theorem f102_9 : hs_fld (hs_own 102) 9 = some (1, 0, 3, 1) := by decide +kernel
theorem f102_15 : hs_fld (hs_own 102) 15 = some (1, 1, 3, 1) := by decide +kernel
theorem f102_18 : hs_fld (hs_own 102) 18 = some (1, 2, 3, 1) := by decide +kernel
theorem f102_21 : hs_fld (hs_own 102) 21 = some (1, 3, 3, 1) := by decide +kernel
theorem f102_24 : hs_fld (hs_own 102) 24 = some (1, 4, 0, 0) := by decide +kernel
theorem f103_18 : hs_fld (hs_own 103) 18 = some (1, 2, 3, 1) := by decide +kernel
theorem f103_21 : hs_fld (hs_own 103) 21 = some (1, 3, 3, 1) := by decide +kernel
theorem f105_76 : hs_fld (hs_own 105) 76 = some (4, 16, 1, 0) := by decide +kernel
theorem f110_9 : hs_fld (hs_own 110) 9 = some (1, 0, 3, 1) := by decide +kernel
theorem f112_21 : hs_fld (hs_own 112) 21 = some (4, 1, 3, 1) := by decide +kernel
theorem f112_25 : hs_fld (hs_own 112) 25 = some (4, 2, 3, 1) := by decide +kernel
theorem f112_29 : hs_fld (hs_own 112) 29 = some (4, 3, 3, 1) := by decide +kernel
theorem f112_52 : hs_fld (hs_own 112) 52 = some (4, 8, 0, 0) := by decide +kernel
theorem f112_135 : hs_fld (hs_own 112) 135 = some (1, 0, 3, 1) := by decide +kernel
theorem f114_55 : hs_fld (hs_own 114) 55 = some (4, 9, 0, 0) := by decide +kernel
theorem f114_80 : hs_fld (hs_own 114) 80 = some (4, 17, 0, 0) := by decide +kernel
theorem f121_21 : hs_fld (hs_own 121) 21 = some (4, 1, 3, 1) := by decide +kernel
theorem f121_51 : hs_fld (hs_own 121) 51 = some (1, 4, 0, 0) := by decide +kernel
theorem f121_76 : hs_fld (hs_own 121) 76 = some (4, 16, 1, 0) := by decide +kernel
theorem f126_21 : hs_fld (hs_own 126) 21 = some (4, 1, 3, 1) := by decide +kernel
theorem f126_51 : hs_fld (hs_own 126) 51 = some (1, 4, 0, 0) := by decide +kernel
theorem f126_121 : hs_fld (hs_own 126) 121 = some (1, 2, 3, 1) := by decide +kernel
theorem f129_18 : hs_fld (hs_own 129) 18 = some (1, 2, 3, 1) := by decide +kernel
theorem f129_24 : hs_fld (hs_own 129) 24 = some (1, 4, 0, 0) := by decide +kernel
theorem f132_21 : hs_fld (hs_own 132) 21 = some (4, 1, 3, 1) := by decide +kernel
theorem f132_135 : hs_fld (hs_own 132) 135 = some (1, 0, 3, 1) := by decide +kernel
theorem f133_21 : hs_fld (hs_own 133) 21 = some (4, 1, 3, 1) := by decide +kernel
theorem f133_129 : hs_fld (hs_own 133) 129 = some (1, 1, 3, 1) := by decide +kernel
theorem f137_24 : hs_fld (hs_own 137) 24 = some (1, 4, 0, 0) := by decide +kernel
theorem f150_9 : hs_fld (hs_own 150) 9 = some (9, 0, 3, 1) := by decide +kernel
theorem f150_15 : hs_fld (hs_own 150) 15 = some (9, 2, 0, 0) := by decide +kernel
theorem f157_9 : hs_fld (hs_own 157) 9 = some (0, 0, 3, 1) := by decide +kernel
theorem f157_15 : hs_fld (hs_own 157) 15 = some (0, 1, 3, 0) := by decide +kernel
theorem f157_19 : hs_fld (hs_own 157) 19 = some (0, 2, 0, 0) := by decide +kernel
theorem f157_23 : hs_fld (hs_own 157) 23 = some (4, 1, 3, 1) := by decide +kernel
theorem f157_29 : hs_fld (hs_own 157) 29 = some (1, 4, 0, 0) := by decide +kernel
theorem f159_9 : hs_fld (hs_own 159) 9 = some (0, 0, 3, 1) := by decide +kernel
theorem f159_15 : hs_fld (hs_own 159) 15 = some (0, 1, 3, 0) := by decide +kernel
theorem f159_23 : hs_fld (hs_own 159) 23 = some (4, 1, 3, 1) := by decide +kernel
theorem f159_29 : hs_fld (hs_own 159) 29 = some (1, 4, 0, 0) := by decide +kernel
theorem f160_15 : hs_fld (hs_own 160) 15 = some (0, 1, 3, 0) := by decide +kernel
theorem f160_23 : hs_fld (hs_own 160) 23 = some (4, 1, 3, 1) := by decide +kernel
theorem f160_29 : hs_fld (hs_own 160) 29 = some (1, 4, 0, 0) := by decide +kernel
theorem f161_15 : hs_fld (hs_own 161) 15 = some (0, 1, 3, 0) := by decide +kernel
theorem f161_19 : hs_fld (hs_own 161) 19 = some (0, 2, 0, 0) := by decide +kernel
theorem f161_23 : hs_fld (hs_own 161) 23 = some (4, 1, 3, 1) := by decide +kernel
theorem f161_29 : hs_fld (hs_own 161) 29 = some (1, 4, 0, 0) := by decide +kernel
theorem f162_9 : hs_fld (hs_own 162) 9 = some (0, 0, 3, 1) := by decide +kernel
theorem f162_15 : hs_fld (hs_own 162) 15 = some (0, 1, 3, 0) := by decide +kernel
theorem f162_19 : hs_fld (hs_own 162) 19 = some (0, 2, 0, 0) := by decide +kernel
theorem f164_15 : hs_fld (hs_own 164) 15 = some (0, 1, 3, 0) := by decide +kernel
theorem f164_23 : hs_fld (hs_own 164) 23 = some (4, 1, 3, 1) := by decide +kernel
theorem f164_29 : hs_fld (hs_own 164) 29 = some (1, 4, 0, 0) := by decide +kernel
theorem f166_21 : hs_fld (hs_own 166) 21 = some (4, 1, 3, 1) := by decide +kernel
theorem f166_51 : hs_fld (hs_own 166) 51 = some (1, 4, 0, 0) := by decide +kernel
theorem f172_17 : hs_fld (hs_own 172) 17 = some (2, 1, 0, 0) := by decide +kernel
theorem f172_21 : hs_fld (hs_own 172) 21 = some (2, 2, 0, 0) := by decide +kernel
theorem f172_24 : hs_fld (hs_own 172) 24 = some (2, 3, 0, 0) := by decide +kernel
theorem f172_27 : hs_fld (hs_own 172) 27 = some (2, 4, 0, 0) := by decide +kernel
theorem f172_30 : hs_fld (hs_own 172) 30 = some (2, 5, 1, 0) := by decide +kernel
theorem f172_34 : hs_fld (hs_own 172) 34 = some (2, 7, 3, 0) := by decide +kernel
theorem f172_38 : hs_fld (hs_own 172) 38 = some (2, 8, 3, 0) := by decide +kernel
theorem f172_42 : hs_fld (hs_own 172) 42 = some (2, 6, 0, 0) := by decide +kernel
theorem f172_45 : hs_fld (hs_own 172) 45 = some (2, 0, 0, 0) := by decide +kernel
theorem f172_48 : hs_fld (hs_own 172) 48 = some (5, 5, 0, 0) := by decide +kernel
theorem f172_51 : hs_fld (hs_own 172) 51 = some (5, 0, 3, 1) := by decide +kernel
theorem f173_11 : hs_fld (hs_own 173) 11 = some (2, 9, 3, 1) := by decide +kernel
theorem f173_34 : hs_fld (hs_own 173) 34 = some (2, 7, 3, 0) := by decide +kernel
theorem f173_51 : hs_fld (hs_own 173) 51 = some (5, 0, 3, 1) := by decide +kernel
theorem f173_65 : hs_fld (hs_own 173) 65 = some (5, 4, 3, 1) := by decide +kernel
theorem f174_34 : hs_fld (hs_own 174) 34 = some (2, 7, 3, 0) := by decide +kernel
theorem f174_38 : hs_fld (hs_own 174) 38 = some (2, 8, 3, 0) := by decide +kernel
theorem f174_51 : hs_fld (hs_own 174) 51 = some (5, 0, 3, 1) := by decide +kernel
theorem f174_71 : hs_fld (hs_own 174) 71 = some (5, 3, 3, 1) := by decide +kernel
theorem f174_74 : hs_fld (hs_own 174) 74 = some (5, 2, 3, 1) := by decide +kernel
theorem f174_86 : hs_fld (hs_own 174) 86 = some (4, 1, 3, 1) := by decide +kernel
theorem f174_105 : hs_fld (hs_own 174) 105 = some (1, 3, 3, 1) := by decide +kernel
theorem f175_21 : hs_fld (hs_own 175) 21 = some (2, 2, 0, 0) := by decide +kernel
theorem f175_38 : hs_fld (hs_own 175) 38 = some (2, 8, 3, 0) := by decide +kernel
theorem f176_24 : hs_fld (hs_own 176) 24 = some (2, 3, 0, 0) := by decide +kernel
theorem f176_38 : hs_fld (hs_own 176) 38 = some (2, 8, 3, 0) := by decide +kernel
theorem f176_86 : hs_fld (hs_own 176) 86 = some (4, 1, 3, 1) := by decide +kernel
theorem f176_90 : hs_fld (hs_own 176) 90 = some (1, 0, 3, 1) := by decide +kernel
theorem f177_27 : hs_fld (hs_own 177) 27 = some (2, 4, 0, 0) := by decide +kernel
theorem f177_38 : hs_fld (hs_own 177) 38 = some (2, 8, 3, 0) := by decide +kernel
theorem f178_38 : hs_fld (hs_own 178) 38 = some (2, 8, 3, 0) := by decide +kernel
theorem f178_86 : hs_fld (hs_own 178) 86 = some (4, 1, 3, 1) := by decide +kernel
theorem f178_131 : hs_fld (hs_own 178) 131 = some (1, 4, 0, 0) := by decide +kernel
theorem f178_137 : hs_fld (hs_own 178) 137 = some (1, 2, 3, 1) := by decide +kernel
theorem f179_42 : hs_fld (hs_own 179) 42 = some (2, 6, 0, 0) := by decide +kernel
theorem f180_11 : hs_fld (hs_own 180) 11 = some (2, 9, 3, 1) := by decide +kernel
theorem f180_34 : hs_fld (hs_own 180) 34 = some (2, 7, 3, 0) := by decide +kernel
theorem f180_48 : hs_fld (hs_own 180) 48 = some (5, 5, 0, 0) := by decide +kernel
theorem f180_51 : hs_fld (hs_own 180) 51 = some (5, 0, 3, 1) := by decide +kernel
theorem f180_65 : hs_fld (hs_own 180) 65 = some (5, 4, 3, 1) := by decide +kernel
theorem f180_71 : hs_fld (hs_own 180) 71 = some (5, 3, 3, 1) := by decide +kernel
theorem f181_38 : hs_fld (hs_own 181) 38 = some (2, 8, 3, 0) := by decide +kernel
theorem f181_86 : hs_fld (hs_own 181) 86 = some (4, 1, 3, 1) := by decide +kernel
theorem f181_90 : hs_fld (hs_own 181) 90 = some (1, 0, 3, 1) := by decide +kernel
theorem f181_95 : hs_fld (hs_own 181) 95 = some (4, 16, 1, 0) := by decide +kernel
theorem f183_17 : hs_fld (hs_own 183) 17 = some (2, 1, 0, 0) := by decide +kernel
theorem f183_21 : hs_fld (hs_own 183) 21 = some (2, 2, 0, 0) := by decide +kernel
theorem f183_24 : hs_fld (hs_own 183) 24 = some (2, 3, 0, 0) := by decide +kernel
theorem f183_27 : hs_fld (hs_own 183) 27 = some (2, 4, 0, 0) := by decide +kernel
theorem f183_30 : hs_fld (hs_own 183) 30 = some (2, 5, 1, 0) := by decide +kernel
theorem f185_12 : hs_fld (hs_own 185) 12 = some (4, 0, 3, 1) := by decide +kernel
theorem f185_21 : hs_fld (hs_own 185) 21 = some (4, 1, 3, 1) := by decide +kernel
theorem f185_25 : hs_fld (hs_own 185) 25 = some (4, 2, 3, 1) := by decide +kernel
theorem f185_29 : hs_fld (hs_own 185) 29 = some (4, 3, 3, 1) := by decide +kernel
theorem f185_32 : hs_fld (hs_own 185) 32 = some (4, 4, 3, 1) := by decide +kernel
theorem f185_35 : hs_fld (hs_own 185) 35 = some (4, 5, 3, 1) := by decide +kernel
theorem f185_38 : hs_fld (hs_own 185) 38 = some (4, 6, 3, 1) := by decide +kernel
theorem f185_41 : hs_fld (hs_own 185) 41 = some (4, 7, 3, 1) := by decide +kernel
theorem f185_52 : hs_fld (hs_own 185) 52 = some (4, 8, 0, 0) := by decide +kernel
theorem f185_55 : hs_fld (hs_own 185) 55 = some (4, 9, 0, 0) := by decide +kernel
theorem f185_58 : hs_fld (hs_own 185) 58 = some (4, 10, 0, 0) := by decide +kernel
theorem f185_61 : hs_fld (hs_own 185) 61 = some (4, 11, 0, 0) := by decide +kernel
theorem f185_64 : hs_fld (hs_own 185) 64 = some (4, 12, 0, 0) := by decide +kernel
theorem f185_67 : hs_fld (hs_own 185) 67 = some (4, 13, 0, 0) := by decide +kernel
theorem f185_70 : hs_fld (hs_own 185) 70 = some (4, 14, 0, 0) := by decide +kernel
theorem f185_73 : hs_fld (hs_own 185) 73 = some (4, 15, 0, 0) := by decide +kernel
theorem f185_76 : hs_fld (hs_own 185) 76 = some (4, 16, 1, 0) := by decide +kernel
theorem f185_80 : hs_fld (hs_own 185) 80 = some (4, 17, 0, 0) := by decide +kernel
theorem f186_9 : hs_fld (hs_own 186) 9 = some (3, 0, 3, 1) := by decide +kernel
theorem f186_15 : hs_fld (hs_own 186) 15 = some (3, 1, 3, 1) := by decide +kernel
theorem f186_19 : hs_fld (hs_own 186) 19 = some (3, 2, 3, 1) := by decide +kernel
theorem f186_22 : hs_fld (hs_own 186) 22 = some (3, 3, 0, 0) := by decide +kernel
theorem f187_9 : hs_fld (hs_own 187) 9 = some (1, 0, 3, 1) := by decide +kernel
theorem f187_15 : hs_fld (hs_own 187) 15 = some (1, 1, 3, 1) := by decide +kernel
theorem f187_18 : hs_fld (hs_own 187) 18 = some (1, 2, 3, 1) := by decide +kernel
theorem f187_21 : hs_fld (hs_own 187) 21 = some (1, 3, 3, 1) := by decide +kernel
theorem f187_24 : hs_fld (hs_own 187) 24 = some (1, 4, 0, 0) := by decide +kernel
theorem f189_11 : hs_fld (hs_own 189) 11 = some (5, 0, 3, 1) := by decide +kernel
theorem f189_15 : hs_fld (hs_own 189) 15 = some (5, 1, 3, 1) := by decide +kernel
theorem f189_18 : hs_fld (hs_own 189) 18 = some (5, 2, 3, 1) := by decide +kernel
theorem f189_21 : hs_fld (hs_own 189) 21 = some (5, 3, 3, 1) := by decide +kernel
theorem f189_24 : hs_fld (hs_own 189) 24 = some (5, 4, 3, 1) := by decide +kernel
theorem f189_27 : hs_fld (hs_own 189) 27 = some (5, 5, 0, 0) := by decide +kernel
theorem f189_31 : hs_fld (hs_own 189) 31 = some (5, 6, 0, 0) := by decide +kernel
theorem f189_34 : hs_fld (hs_own 189) 34 = some (5, 7, 1, 0) := by decide +kernel
theorem rt85 : hs_ret 85 = (some .int) := by decide +kernel
theorem rt86 : hs_ret 86 = (some .int) := by decide +kernel
theorem rt87 : hs_ret 87 = (some .int) := by decide +kernel
theorem rt96 : hs_ret 96 = (some .int) := by decide +kernel
theorem rt100 : hs_ret 100 = (some .boolean) := by decide +kernel
theorem rt101 : hs_ret 101 = (some .int) := by decide +kernel
theorem rt102 : hs_ret 102 = none := by decide +kernel
theorem rt103 : hs_ret 103 = (some .int) := by decide +kernel
theorem rt105 : hs_ret 105 = (some .boolean) := by decide +kernel
theorem rt110 : hs_ret 110 = (some .int) := by decide +kernel
theorem rt112 : hs_ret 112 = (some .int) := by decide +kernel
theorem rt114 : hs_ret 114 = (some .boolean) := by decide +kernel
theorem rt121 : hs_ret 121 = (some .boolean) := by decide +kernel
theorem rt126 : hs_ret 126 = (some .int) := by decide +kernel
theorem rt128 : hs_ret 128 = (some .int) := by decide +kernel
theorem rt129 : hs_ret 129 = (some .int) := by decide +kernel
theorem rt132 : hs_ret 132 = (some .int) := by decide +kernel
theorem rt133 : hs_ret 133 = (some .int) := by decide +kernel
theorem rt137 : hs_ret 137 = (some .boolean) := by decide +kernel
theorem rt139 : hs_ret 139 = (some .int) := by decide +kernel
theorem rt150 : hs_ret 150 = (some .boolean) := by decide +kernel
theorem rt157 : hs_ret 157 = none := by decide +kernel
theorem rt158 : hs_ret 158 = (some .int) := by decide +kernel
theorem rt159 : hs_ret 159 = (some .int) := by decide +kernel
theorem rt160 : hs_ret 160 = (some .int) := by decide +kernel
theorem rt161 : hs_ret 161 = (some .int) := by decide +kernel
theorem rt162 : hs_ret 162 = (some .int) := by decide +kernel
theorem rt164 : hs_ret 164 = (some .int) := by decide +kernel
theorem rt166 : hs_ret 166 = (some .int) := by decide +kernel
theorem rt172 : hs_ret 172 = none := by decide +kernel
theorem rt173 : hs_ret 173 = (some .int) := by decide +kernel
theorem rt174 : hs_ret 174 = (some .boolean) := by decide +kernel
theorem rt175 : hs_ret 175 = (some .boolean) := by decide +kernel
theorem rt176 : hs_ret 176 = (some .boolean) := by decide +kernel
theorem rt177 : hs_ret 177 = (some .boolean) := by decide +kernel
theorem rt178 : hs_ret 178 = (some .boolean) := by decide +kernel
theorem rt179 : hs_ret 179 = (some .int) := by decide +kernel
theorem rt180 : hs_ret 180 = (some .int) := by decide +kernel
theorem rt181 : hs_ret 181 = (some .boolean) := by decide +kernel
theorem rt183 : hs_ret 183 = (some .int) := by decide +kernel
theorem rt185 : hs_ret 185 = none := by decide +kernel
theorem rt186 : hs_ret 186 = none := by decide +kernel
theorem rt187 : hs_ret 187 = none := by decide +kernel
theorem rt189 : hs_ret 189 = none := by decide +kernel
section BB
variable {scr : List Int32} {d : Nat} {h : hs_H} {S : List hs_S} {I : Nat → Nat → Int32} {L : Nat → Nat → Int64} {R : Nat → Nat → Nat}
theorem e85 {t0 : Nat} {x1 : Int32} : hs_C scr d 85 [.ref t0, .int x1] h = hs_R scr d 85 0 [some (.ref t0), some (.int x1), none, none] [] h := by rw [hs_C, mL85]; rfl
theorem b85_0 {t0 : Nat} {x1 : Int32}  : hs_R scr d 85 0 [some (.ref t0), some (.int x1), none, none] [] (S, I, L, R) = hs_R scr d 85 4 [some (.ref t0), some (.int x1), some (.int 0), some (.int 0)] [] (S, I, L, R) := Eq.trans (r_ic d85_0 kI_0) (Eq.trans (r_is_n (loc' := [some (.ref t0), some (.int x1), some (.int 0), none]) d85_1 rfl) (Eq.trans (r_ic d85_2 kI_0) (Eq.trans (r_is_n (loc' := [some (.ref t0), some (.int x1), some (.int 0), some (.int 0)]) d85_3 rfl) (rfl))))
theorem b85_4 {t0 : Nat} {x1 x2 x3 : Int32} (o_t0 : ok1 S R t0) : hs_R scr d 85 4 [some (.ref t0), some (.int x1), some (.int x2), some (.int x3)] [] (S, I, L, R) = (if (I t0 4) ≤ x3 then some (some (.int x2), (S, I, L, R)) else (if hs_ib x3 8 = true then (if (I (t0 + 3) (Int32.toNatClampNeg x3)) = x1 then hs_R scr d 85 28 [some (.ref t0), some (.int x1), some (.int (x2 ||| ((1 : Int32) <<< (x3 &&& 31)))), some (.int x3)] [] (S, I, L, R) else hs_R scr d 85 28 [some (.ref t0), some (.int x1), some (.int x2), some (.int x3)] [] (S, I, L, R)) else none)) := Eq.trans (r_il_n d85_4 rfl) (Eq.trans (r_al_n d85_5 rfl) (Eq.trans (r_getI d85_6 f85_24 o_t0.2.1) (Eq.trans (r_cge d85_9 rfl) (q_ite (Eq.trans (r_il_n d85_34 rfl) (r_ri d85_35 rt85)) (Eq.trans (r_al_n d85_12 rfl) (Eq.trans (r_getRe d85_13 f85_18 o_t0.2.1 (o_t0.2.2.2.2.2.2.1) (Nat.le_trans o_t0.1 (Nat.le_add_right _ _))) (Eq.trans (r_il_n d85_16 rfl) (Eq.trans (r_iald d85_17 (o_t0.2.2.2.2.2.2.2.1)) (q_ite (Eq.trans (r_il_n d85_18 rfl) (Eq.trans (r_cne d85_19 rfl) (q_ite (Eq.trans (r_il_n d85_22 rfl) (Eq.trans (r_ic d85_23 kI_1) (Eq.trans (r_il_n d85_24 rfl) (Eq.trans (r_ishl d85_25) (Eq.trans (r_ior d85_26) (Eq.trans (r_is_n (loc' := [some (.ref t0), some (.int x1), some (.int (x2 ||| ((1 : Int32) <<< (x3 &&& 31)))), some (.int x3)]) d85_27 rfl) (rfl))))))) (rfl)))) rfl)))))))))
theorem b85_28 {t0 : Nat} {x1 x2 x3 : Int32}  : hs_R scr d 85 28 [some (.ref t0), some (.int x1), some (.int x2), some (.int x3)] [] (S, I, L, R) = hs_R scr d 85 4 [some (.ref t0), some (.int x1), some (.int x2), some (.int (x3 + 1))] [] (S, I, L, R) := Eq.trans (r_inc (loc' := [some (.ref t0), some (.int x1), some (.int x2), some (.int (x3 + 1))]) d85_28 kI_1 rfl rfl) (Eq.trans (r_goto d85_31 rfl) (rfl))
theorem e86 {t0 : Nat} : hs_C scr d 86 [.ref t0] h = hs_R scr d 86 0 [some (.ref t0), none, none] [] h := by rw [hs_C, mL86]; rfl
theorem b86_0 {t0 : Nat}  : hs_R scr d 86 0 [some (.ref t0), none, none] [] (S, I, L, R) = hs_R scr d 86 4 [some (.ref t0), some (.int 0), some (.int 0)] [] (S, I, L, R) := Eq.trans (r_ic d86_0 kI_0) (Eq.trans (r_is_n (loc' := [some (.ref t0), some (.int 0), none]) d86_1 rfl) (Eq.trans (r_ic d86_2 kI_0) (Eq.trans (r_is_n (loc' := [some (.ref t0), some (.int 0), some (.int 0)]) d86_3 rfl) (rfl))))
theorem b86_4 {t0 : Nat} {x1 x2 : Int32} (o_t0 : ok1 S R t0) : hs_R scr d 86 4 [some (.ref t0), some (.int x1), some (.int x2)] [] (S, I, L, R) = (if (I t0 4) ≤ x2 then some (some (.int x1), (S, I, L, R)) else (if hs_ib x2 8 = true then hs_R scr d 86 4 [some (.ref t0), some (.int (x1 + (I (t0 + 1) (Int32.toNatClampNeg x2)))), some (.int (x2 + 1))] [] (S, I, L, R) else none)) := Eq.trans (r_il_n d86_4 rfl) (Eq.trans (r_al_n d86_5 rfl) (Eq.trans (r_getI d86_6 f86_24 o_t0.2.1) (Eq.trans (r_cge d86_9 rfl) (q_ite (Eq.trans (r_il_n d86_27 rfl) (r_ri d86_28 rt86)) (Eq.trans (r_il_n d86_12 rfl) (Eq.trans (r_al_n d86_13 rfl) (Eq.trans (r_getRe d86_14 f86_9 o_t0.2.1 (o_t0.2.2.1) (Nat.le_trans o_t0.1 (Nat.le_add_right _ _))) (Eq.trans (r_il_n d86_17 rfl) (Eq.trans (r_iald d86_18 (o_t0.2.2.2.1)) (q_ite (Eq.trans (r_iadd d86_19) (Eq.trans (r_is_n (loc' := [some (.ref t0), some (.int (x1 + (I (t0 + 1) (Int32.toNatClampNeg x2)))), some (.int x2)]) d86_20 rfl) (Eq.trans (r_inc (loc' := [some (.ref t0), some (.int (x1 + (I (t0 + 1) (Int32.toNatClampNeg x2)))), some (.int (x2 + 1))]) d86_21 kI_1 rfl rfl) (Eq.trans (r_goto d86_24 rfl) (rfl))))) rfl))))))))))
theorem e87 {t0 : Nat} : hs_C scr d 87 [.ref t0] h = hs_R scr d 87 0 [some (.ref t0), none, none] [] h := by rw [hs_C, mL87]; rfl
theorem b87_0 {t0 : Nat}  : hs_R scr d 87 0 [some (.ref t0), none, none] [] (S, I, L, R) = hs_R scr d 87 4 [some (.ref t0), some (.int 0), some (.int 0)] [] (S, I, L, R) := Eq.trans (r_ic d87_0 kI_0) (Eq.trans (r_is_n (loc' := [some (.ref t0), some (.int 0), none]) d87_1 rfl) (Eq.trans (r_ic d87_2 kI_0) (Eq.trans (r_is_n (loc' := [some (.ref t0), some (.int 0), some (.int 0)]) d87_3 rfl) (rfl))))
theorem b87_4 {t0 : Nat} {x1 x2 : Int32} (o_t0 : ok4 S R t0) : hs_R scr d 87 4 [some (.ref t0), some (.int x1), some (.int x2)] [] (S, I, L, R) = (if (I t0 8) ≤ x2 then some (some (.int x1), (S, I, L, R)) else (if hs_ib x2 5 = true then hs_R scr d 87 4 [some (.ref t0), some (.int (x1 + (I (t0 + 10) (Int32.toNatClampNeg x2)))), some (.int (x2 + 1))] [] (S, I, L, R) else none)) := Eq.trans (r_il_n d87_4 rfl) (Eq.trans (r_al_n d87_5 rfl) (Eq.trans (r_getI d87_6 f87_52 o_t0.2.1) (Eq.trans (r_cge d87_9 rfl) (q_ite (Eq.trans (r_il_n d87_27 rfl) (r_ri d87_28 rt87)) (Eq.trans (r_il_n d87_12 rfl) (Eq.trans (r_al_n d87_13 rfl) (Eq.trans (r_getRe d87_14 f87_25 o_t0.2.1 (o_t0.2.2.2.2.2.2.1) (Nat.le_trans o_t0.1 (Nat.le_add_right _ _))) (Eq.trans (r_il_n d87_17 rfl) (Eq.trans (r_iald d87_18 (o_t0.2.2.2.2.2.2.2.1)) (q_ite (Eq.trans (r_iadd d87_19) (Eq.trans (r_is_n (loc' := [some (.ref t0), some (.int (x1 + (I (t0 + 10) (Int32.toNatClampNeg x2)))), some (.int x2)]) d87_20 rfl) (Eq.trans (r_inc (loc' := [some (.ref t0), some (.int (x1 + (I (t0 + 10) (Int32.toNatClampNeg x2)))), some (.int (x2 + 1))]) d87_21 kI_1 rfl rfl) (Eq.trans (r_goto d87_24 rfl) (rfl))))) rfl))))))))))
theorem e96 {t0 : Nat} {x1 : Int32} {x2 : Int32} : hs_C scr d 96 [.ref t0, .int x1, .int x2] h = hs_R scr d 96 0 [some (.ref t0), some (.int x1), some (.int x2)] [] h := by rw [hs_C, mL96]; rfl
theorem b96_0 {t0 : Nat} {x1 x2 : Int32} (o_t0 : ok4 S R t0) : hs_R scr d 96 0 [some (.ref t0), some (.int x1), some (.int x2)] [] (S, I, L, R) = (if hs_ib ((x1 * 8) + x2) 48 = true then some (some (.int (I (t0 + 13) (Int32.toNatClampNeg ((x1 * 8) + x2)))), (S, I, L, R)) else none) := Eq.trans (r_al_n d96_0 rfl) (Eq.trans (r_getRe d96_1 f96_35 o_t0.2.1 (o_t0.2.2.2.2.2.2.2.2.2.2.2.2.1) (Nat.le_trans o_t0.1 (Nat.le_add_right _ _))) (Eq.trans (r_il_n d96_4 rfl) (Eq.trans (r_bp d96_5 kB_8) (Eq.trans (r_imul d96_7) (Eq.trans (r_il_n d96_8 rfl) (Eq.trans (r_iadd d96_9) (Eq.trans (r_iald d96_10 (o_t0.2.2.2.2.2.2.2.2.2.2.2.2.2.1)) (q_ite (r_ri d96_11 rt96) rfl))))))))
theorem e100 {t0 : Nat} {x1 : Int32} : hs_C scr d 100 [.ref t0, .int x1] h = hs_R scr d 100 0 [some (.ref t0), some (.int x1)] [] h := by rw [hs_C, mL100]; rfl
theorem b100_0 {t0 : Nat} {x1 : Int32} (o_t0 : ok4 S R t0) : hs_R scr (d + 1) 100 0 [some (.ref t0), some (.int x1)] [] (S, I, L, R) = (if x1 ≤ ((9999 : Int32) - (I t0 15)) then ((hs_C scr d 101 [.ref t0] (S, I, L, R)).bind fun o => hs_R scr (d + 1) 100 23 [some (.ref t0), some (.int x1)] (o.1.toList ++ [.int x1, .ref (t0 + 5)]) o.2) else some (some (.int 0), (S, I, L, R))) := Eq.trans (r_il_n d100_0 rfl) (Eq.trans (r_sp d100_1 kS_9999) (Eq.trans (r_al_n d100_4 rfl) (Eq.trans (r_getI d100_5 f100_73 o_t0.2.1) (Eq.trans (r_isub d100_8) (Eq.trans (r_cle d100_9 rfl) (q_ite (Eq.trans (r_al_n d100_14 rfl) (Eq.trans (r_getRe d100_15 f100_21 o_t0.2.1 (o_t0.2.2.2.2.1) (Nat.le_trans o_t0.1 (Nat.le_add_right _ _))) (Eq.trans (r_il_n d100_18 rfl) (Eq.trans (r_al_n d100_19 rfl) (r_cvE (as := []) (r := [.int x1, .ref (t0 + 5)]) d100_20 c100_132 ow101 o_t0.2.1 np101.symm rfl (hs_fitE mL101 (Nat.le_of_ble_eq_true rfl))))))) (Eq.trans (r_ic d100_12 kI_0) ((r_rz d100_13 rt100).trans (if_pos (Or.inl rfl))))))))))
theorem b100_23 {t0 u0 : Nat} {x1 s1 s2 : Int32} (o_t0 : ok4 S R t0) (o_u0 : ok1 S R u0) : hs_R scr (d + 1) 100 23 [some (.ref t0), some (.int x1)] [.int s2, .int s1, .ref u0] (S, I, L, R) = ((hs_C scr d 102 [.ref u0, .int s1, .int s2, .int (I t0 16)] (S, I, L, R)).bind fun o => hs_R scr (d + 1) 100 30 [some (.ref t0), some (.int x1)] (o.1.toList ++ []) o.2) := Eq.trans (r_al_n d100_23 rfl) (Eq.trans (r_getZ d100_24 f100_76 o_t0.2.1) (r_cvE (as := [.int s1, .int s2, .int (I t0 16)]) (r := []) d100_27 c100_144 ow102 o_u0.2.1 np102.symm rfl (hs_fitE mL102 (Nat.le_of_ble_eq_true rfl))))
theorem b100_30 {t0 : Nat} {x1 : Int32} (o_t0 : ok4 S R t0) : hs_R scr d 100 30 [some (.ref t0), some (.int x1)] [] (S, I, L, R) = some (some (.int 1), (S, (hs_u I t0 15 ((I t0 15) + x1)), L, R)) := Eq.trans (r_al_n d100_30 rfl) (Eq.trans (r_dup d100_31 rfl) (Eq.trans (r_getI d100_32 f100_73 o_t0.2.1) (Eq.trans (r_il_n d100_35 rfl) (Eq.trans (r_iadd d100_36) (Eq.trans (r_putI d100_37 f100_73 o_t0.2.1) (Eq.trans (r_ic d100_40 kI_1) ((r_rz d100_41 rt100).trans (if_pos (Or.inr rfl)))))))))
theorem e101 {t0 : Nat} : hs_C scr d 101 [.ref t0] h = hs_R scr d 101 0 [some (.ref t0)] [] h := by rw [hs_C, mL101]; rfl
theorem b101_0 {t0 : Nat} (o_t0 : ok4 S R t0) : hs_R scr d 101 0 [some (.ref t0)] [] (S, I, L, R) = (if (I t0 17) < 0 then hs_R scr d 101 30 [some (.ref t0)] [] (S, I, L, R) else (if (I t0 9) ≤ (I t0 17) then hs_R scr d 101 30 [some (.ref t0)] [] (S, I, L, R) else (if hs_ib (I t0 17) 6 = true then hs_R scr d 101 31 [some (.ref t0)] [.int (I (t0 + 12) (Int32.toNatClampNeg (I t0 17)))] (S, I, L, R) else none))) := Eq.trans (r_al_n d101_0 rfl) (Eq.trans (r_getI d101_1 f101_80 o_t0.2.1) (Eq.trans (r_zlt d101_4 rfl) (q_ite (rfl) (Eq.trans (r_al_n d101_7 rfl) (Eq.trans (r_getI d101_8 f101_80 o_t0.2.1) (Eq.trans (r_al_n d101_11 rfl) (Eq.trans (r_getI d101_12 f101_55 o_t0.2.1) (Eq.trans (r_cge d101_15 rfl) (q_ite (rfl) (Eq.trans (r_al_n d101_18 rfl) (Eq.trans (r_getRe d101_19 f101_32 o_t0.2.1 (o_t0.2.2.2.2.2.2.2.2.2.2.1) (Nat.le_trans o_t0.1 (Nat.le_add_right _ _))) (Eq.trans (r_al_n d101_22 rfl) (Eq.trans (r_getI d101_23 f101_80 o_t0.2.1) (Eq.trans (r_iald d101_26 (o_t0.2.2.2.2.2.2.2.2.2.2.2.1)) (q_ite (Eq.trans (r_goto d101_27 rfl) (rfl)) rfl)))))))))))))))
theorem b101_30 {t0 : Nat}  : hs_R scr d 101 30 [some (.ref t0)] [] (S, I, L, R) = hs_R scr d 101 31 [some (.ref t0)] [.int 0] (S, I, L, R) := Eq.trans (r_ic d101_30 kI_0) (rfl)
theorem b101_31 {t0 : Nat} {s0 : Int32}  : hs_R scr d 101 31 [some (.ref t0)] [.int s0] (S, I, L, R) = some (some (.int s0), (S, I, L, R)) := r_ri d101_31 rt101
theorem e102 {t0 : Nat} {x1 : Int32} {x2 : Int32} {x3 : Int32} : hs_C scr d 102 [.ref t0, .int x1, .int x2, .int x3] h = hs_R scr d 102 0 [some (.ref t0), some (.int x1), some (.int x2), some (.int x3), none] [] h := by rw [hs_C, mL102]; rfl
theorem b102_0 {t0 : Nat} {x1 x2 x3 : Int32}  : hs_R scr d 102 0 [some (.ref t0), some (.int x1), some (.int x2), some (.int x3), none] [] (S, I, L, R) = hs_R scr d 102 3 [some (.ref t0), some (.int x1), some (.int x2), some (.int x3), some (.int 0)] [] (S, I, L, R) := Eq.trans (r_ic d102_0 kI_0) (Eq.trans (r_is (loc' := [some (.ref t0), some (.int x1), some (.int x2), some (.int x3), some (.int 0)]) d102_1 rfl) (rfl))
theorem b102_3 {t0 : Nat} {x1 x2 x3 x4 : Int32} (o_t0 : ok1 S R t0) : hs_R scr (d + 1) 102 3 [some (.ref t0), some (.int x1), some (.int x2), some (.int x3), some (.int x4)] [] (S, I, L, R) = (if (I t0 4) ≤ x4 then some (none, (S, I, L, R)) else (if hs_ib x4 8 = true then (if hs_ib x4 8 = true then (if hs_ib x4 8 = true then ((hs_C scr d 103 [.ref t0, .int x4, .int x1, .int x3] (S, (hs_u I (t0 + 1) (Int32.toNatClampNeg x4) (if ((I (t0 + 1) (Int32.toNatClampNeg x4)) + (x1 * ((I (t0 + 2) (Int32.toNatClampNeg x4)) + x2))) < (99 : Int32) then ((I (t0 + 1) (Int32.toNatClampNeg x4)) + (x1 * ((I (t0 + 2) (Int32.toNatClampNeg x4)) + x2))) else (99 : Int32))), L, R)).bind fun o => hs_R scr (d + 1) 102 57 [some (.ref t0), some (.int x1), some (.int x2), some (.int x3), some (.int x4)] (o.1.toList ++ [.int x4, .ref (t0 + 3)]) o.2) else none) else none) else none)) := Eq.trans (r_il d102_3 rfl) (Eq.trans (r_al_n d102_5 rfl) (Eq.trans (r_getI d102_6 f102_24 o_t0.2.1) (Eq.trans (r_cge d102_9 rfl) (q_ite (r_rv d102_84 rt102) (Eq.trans (r_al_n d102_12 rfl) (Eq.trans (r_getRe d102_13 f102_9 o_t0.2.1 (o_t0.2.2.1) (Nat.le_trans o_t0.1 (Nat.le_add_right _ _))) (Eq.trans (r_il d102_16 rfl) (Eq.trans (r_bp d102_18 kB_99) (Eq.trans (r_al_n d102_20 rfl) (Eq.trans (r_getRe d102_21 f102_9 o_t0.2.1 (o_t0.2.2.1) (Nat.le_trans o_t0.1 (Nat.le_add_right _ _))) (Eq.trans (r_il d102_24 rfl) (Eq.trans (r_iald d102_26 (o_t0.2.2.2.1)) (q_ite (Eq.trans (r_il_n d102_27 rfl) (Eq.trans (r_al_n d102_28 rfl) (Eq.trans (r_getRe d102_29 f102_15 o_t0.2.1 (o_t0.2.2.2.2.1) (Nat.le_trans o_t0.1 (Nat.le_add_right _ _))) (Eq.trans (r_il d102_32 rfl) (Eq.trans (r_iald d102_34 (o_t0.2.2.2.2.2.1)) (q_ite (Eq.trans (r_il_n d102_35 rfl) (Eq.trans (r_iadd d102_36) (Eq.trans (r_imul d102_37) (Eq.trans (r_iadd d102_38) (Eq.trans (r_min d102_39 c102_40 rfl) (Eq.trans (r_iast d102_42 (o_t0.2.2.2.1)) (q_ite (Eq.trans (r_al_n d102_43 rfl) (Eq.trans (r_getRe d102_44 f102_18 o_t0.2.1 (o_t0.2.2.2.2.2.2.1) (Nat.le_trans o_t0.1 (Nat.le_add_right _ _))) (Eq.trans (r_il d102_47 rfl) (Eq.trans (r_al_n d102_49 rfl) (Eq.trans (r_il d102_50 rfl) (Eq.trans (r_il_n d102_52 rfl) (Eq.trans (r_il_n d102_53 rfl) (r_cvE (as := [.int x4, .int x1, .int x3]) (r := [.int x4, .ref (t0 + 3)]) d102_54 c102_43 ow103 o_t0.2.1 np103.symm rfl (hs_fitE mL103 (Nat.le_of_ble_eq_true rfl)))))))))) rfl))))))) rfl)))))) rfl)))))))))))))
theorem b102_57 {t0 u0 n_u0 : Nat} {x1 x2 x3 x4 s1 s2 : Int32} (a_u0 : S[u0]? = some (.inr (.int, n_u0))) (o_t0 : ok1 S R t0) : hs_R scr d 102 57 [some (.ref t0), some (.int x1), some (.int x2), some (.int x3), some (.int x4)] [.int s2, .int s1, .ref u0] (S, I, L, R) = (if hs_ib s1 n_u0 = true then (if hs_ib x4 8 = true then (if hs_ib x4 8 = true then hs_R scr d 102 3 [some (.ref t0), some (.int x1), some (.int x2), some (.int x3), some (.int (x4 + 1))] [] (S, (hs_u (hs_u I u0 (Int32.toNatClampNeg s1) s2) (t0 + 4) (Int32.toNatClampNeg x4) (if (0 : Int32) < (((hs_u I u0 (Int32.toNatClampNeg s1) s2) (t0 + 4) (Int32.toNatClampNeg x4)) - x1) then (((hs_u I u0 (Int32.toNatClampNeg s1) s2) (t0 + 4) (Int32.toNatClampNeg x4)) - x1) else (0 : Int32))), L, R) else none) else none) else none) := Eq.trans (r_iast d102_57 a_u0) (q_ite (Eq.trans (r_al_n d102_58 rfl) (Eq.trans (r_getRe d102_59 f102_21 o_t0.2.1 (o_t0.2.2.2.2.2.2.2.2.1) (Nat.le_trans o_t0.1 (Nat.le_add_right _ _))) (Eq.trans (r_il d102_62 rfl) (Eq.trans (r_ic d102_64 kI_0) (Eq.trans (r_al_n d102_65 rfl) (Eq.trans (r_getRe d102_66 f102_21 o_t0.2.1 (o_t0.2.2.2.2.2.2.2.2.1) (Nat.le_trans o_t0.1 (Nat.le_add_right _ _))) (Eq.trans (r_il d102_69 rfl) (Eq.trans (r_iald d102_71 (o_t0.2.2.2.2.2.2.2.2.2)) (q_ite (Eq.trans (r_il_n d102_72 rfl) (Eq.trans (r_isub d102_73) (Eq.trans (r_max d102_74 c102_34 rfl) (Eq.trans (r_iast d102_77 (o_t0.2.2.2.2.2.2.2.2.2)) (q_ite (Eq.trans (r_inc (loc' := [some (.ref t0), some (.int x1), some (.int x2), some (.int x3), some (.int (x4 + 1))]) d102_78 kI_1 rfl rfl) (Eq.trans (r_goto d102_81 rfl) (rfl))) rfl))))) rfl))))))))) rfl)
theorem e103 {t0 : Nat} {x1 : Int32} {x2 : Int32} {x3 : Int32} : hs_C scr d 103 [.ref t0, .int x1, .int x2, .int x3] h = hs_R scr d 103 0 [some (.ref t0), some (.int x1), some (.int x2), some (.int x3), none] [] h := by rw [hs_C, mL103]; rfl
theorem b103_0 {t0 : Nat} {x1 x2 x3 : Int32} (o_t0 : ok1 S R t0) : hs_R scr d 103 0 [some (.ref t0), some (.int x1), some (.int x2), some (.int x3), none] [] (S, I, L, R) = (if hs_ib x1 8 = true then (if x3 = 0 then (if hs_ib x1 8 = true then hs_R scr d 103 47 [some (.ref t0), some (.int x1), some (.int x2), some (.int x3), some (.int (if (0 : Int32) < (x2 - (I (t0 + 4) (Int32.toNatClampNeg x1))) then (x2 - (I (t0 + 4) (Int32.toNatClampNeg x1))) else (0 : Int32)))] [.int (if (0 : Int32) < ((I (t0 + 3) (Int32.toNatClampNeg x1)) - (if (0 : Int32) < (x2 - (I (t0 + 4) (Int32.toNatClampNeg x1))) then (x2 - (I (t0 + 4) (Int32.toNatClampNeg x1))) else (0 : Int32))) then ((I (t0 + 3) (Int32.toNatClampNeg x1)) - (if (0 : Int32) < (x2 - (I (t0 + 4) (Int32.toNatClampNeg x1))) then (x2 - (I (t0 + 4) (Int32.toNatClampNeg x1))) else (0 : Int32))) else (0 : Int32))] (S, I, L, R) else none) else (if hs_ib x1 8 = true then hs_R scr d 103 47 [some (.ref t0), some (.int x1), some (.int x2), some (.int x3), some (.int (if (0 : Int32) < (x2 - (I (t0 + 4) (Int32.toNatClampNeg x1))) then (x2 - (I (t0 + 4) (Int32.toNatClampNeg x1))) else (0 : Int32)))] [.int (if ((I (t0 + 3) (Int32.toNatClampNeg x1)) + (if (0 : Int32) < (x2 - (I (t0 + 4) (Int32.toNatClampNeg x1))) then (x2 - (I (t0 + 4) (Int32.toNatClampNeg x1))) else (0 : Int32))) < (2 : Int32) then ((I (t0 + 3) (Int32.toNatClampNeg x1)) + (if (0 : Int32) < (x2 - (I (t0 + 4) (Int32.toNatClampNeg x1))) then (x2 - (I (t0 + 4) (Int32.toNatClampNeg x1))) else (0 : Int32))) else (2 : Int32))] (S, I, L, R) else none)) else none) := Eq.trans (r_ic d103_0 kI_0) (Eq.trans (r_il_n d103_1 rfl) (Eq.trans (r_al_n d103_2 rfl) (Eq.trans (r_getRe d103_3 f103_21 o_t0.2.1 (o_t0.2.2.2.2.2.2.2.2.1) (Nat.le_trans o_t0.1 (Nat.le_add_right _ _))) (Eq.trans (r_il_n d103_6 rfl) (Eq.trans (r_iald d103_7 (o_t0.2.2.2.2.2.2.2.2.2)) (q_ite (Eq.trans (r_isub d103_8) (Eq.trans (r_max d103_9 c103_34 rfl) (Eq.trans (r_is (loc' := [some (.ref t0), some (.int x1), some (.int x2), some (.int x3), some (.int (if (0 : Int32) < (x2 - (I (t0 + 4) (Int32.toNatClampNeg x1))) then (x2 - (I (t0 + 4) (Int32.toNatClampNeg x1))) else (0 : Int32)))]) d103_12 rfl) (Eq.trans (r_il_n d103_14 rfl) (Eq.trans (r_zeq d103_15 rfl) (q_ite (Eq.trans (r_ic d103_34 kI_0) (Eq.trans (r_al_n d103_35 rfl) (Eq.trans (r_getRe d103_36 f103_18 o_t0.2.1 (o_t0.2.2.2.2.2.2.1) (Nat.le_trans o_t0.1 (Nat.le_add_right _ _))) (Eq.trans (r_il_n d103_39 rfl) (Eq.trans (r_iald d103_40 (o_t0.2.2.2.2.2.2.2.1)) (q_ite (Eq.trans (r_il d103_41 rfl) (Eq.trans (r_isub d103_43) (Eq.trans (r_max d103_44 c103_34 rfl) (rfl)))) rfl)))))) (Eq.trans (r_ic d103_18 kI_2) (Eq.trans (r_al_n d103_19 rfl) (Eq.trans (r_getRe d103_20 f103_18 o_t0.2.1 (o_t0.2.2.2.2.2.2.1) (Nat.le_trans o_t0.1 (Nat.le_add_right _ _))) (Eq.trans (r_il_n d103_23 rfl) (Eq.trans (r_iald d103_24 (o_t0.2.2.2.2.2.2.2.1)) (q_ite (Eq.trans (r_il d103_25 rfl) (Eq.trans (r_iadd d103_27) (Eq.trans (r_min d103_28 c103_40 rfl) (Eq.trans (r_goto d103_31 rfl) (rfl))))) rfl)))))))))))) rfl))))))
theorem b103_47 {t0 : Nat} {x1 x2 x3 x4 s0 : Int32}  : hs_R scr d 103 47 [some (.ref t0), some (.int x1), some (.int x2), some (.int x3), some (.int x4)] [.int s0] (S, I, L, R) = some (some (.int s0), (S, I, L, R)) := r_ri d103_47 rt103
theorem e105 {t0 : Nat} {x1 : Int32} : hs_C scr d 105 [.ref t0, .int x1] h = hs_R scr d 105 0 [some (.ref t0), some (.int x1), none] [] h := by rw [hs_C, mL105]; rfl
theorem b105_0 {t0 : Nat} {x1 : Int32} (o_t0 : ok4 S R t0) : hs_R scr d 105 0 [some (.ref t0), some (.int x1), none] [] (S, I, L, R) = (if (I t0 16) = x1 then hs_R scr d 105 13 [some (.ref t0), some (.int x1), none] [.int 0] (S, I, L, R) else hs_R scr d 105 13 [some (.ref t0), some (.int x1), none] [.int 1] (S, I, L, R)) := Eq.trans (r_al_n d105_0 rfl) (Eq.trans (r_getZ d105_1 f105_76 o_t0.2.1) (Eq.trans (r_il_n d105_4 rfl) (Eq.trans (r_ceq d105_5 rfl) (q_ite (Eq.trans (r_ic d105_12 kI_0) (rfl)) (Eq.trans (r_ic d105_8 kI_1) (Eq.trans (r_goto d105_9 rfl) (rfl)))))))
theorem b105_13 {t0 : Nat} {x1 s0 : Int32} (o_t0 : ok4 S R t0) : hs_R scr d 105 13 [some (.ref t0), some (.int x1), none] [.int s0] (S, I, L, R) = (if x1 = 0 ∨ x1 = 1 then (if s0 = 0 ∨ s0 = 1 then some (some (.int s0), (S, (hs_u I t0 16 x1), L, R)) else none) else none) := Eq.trans (r_is_n (loc' := [some (.ref t0), some (.int x1), some (.int s0)]) d105_13 rfl) (Eq.trans (r_al_n d105_14 rfl) (Eq.trans (r_il_n d105_15 rfl) (Eq.trans (r_putZ d105_16 f105_76 o_t0.2.1) (q_ite (Eq.trans (r_il_n d105_19 rfl) (r_rz d105_20 rt105)) rfl))))
theorem e110 {t0 : Nat} {x1 : Int32} {x2 : Int32} : hs_C scr d 110 [.ref t0, .int x1, .int x2] h = hs_R scr d 110 0 [some (.ref t0), some (.int x1), some (.int x2), none] [] h := by rw [hs_C, mL110]; rfl
theorem b110_0 {t0 : Nat} {x1 x2 : Int32} (o_t0 : ok1 S R t0) : hs_R scr d 110 0 [some (.ref t0), some (.int x1), some (.int x2), none] [] (S, I, L, R) = (if hs_ib x1 8 = true then (if hs_ib x1 8 = true then some (some (.int ((I (t0 + 1) (Int32.toNatClampNeg x1)) - x2)), (S, (hs_u I (t0 + 1) (Int32.toNatClampNeg x1) x2), L, R)) else none) else none) := Eq.trans (r_al_n d110_0 rfl) (Eq.trans (r_getRe d110_1 f110_9 o_t0.2.1 (o_t0.2.2.1) (Nat.le_trans o_t0.1 (Nat.le_add_right _ _))) (Eq.trans (r_il_n d110_4 rfl) (Eq.trans (r_iald d110_5 (o_t0.2.2.2.1)) (q_ite (Eq.trans (r_il_n d110_6 rfl) (Eq.trans (r_isub d110_7) (Eq.trans (r_is_n (loc' := [some (.ref t0), some (.int x1), some (.int x2), some (.int ((I (t0 + 1) (Int32.toNatClampNeg x1)) - x2))]) d110_8 rfl) (Eq.trans (r_al_n d110_9 rfl) (Eq.trans (r_getRe d110_10 f110_9 o_t0.2.1 (o_t0.2.2.1) (Nat.le_trans o_t0.1 (Nat.le_add_right _ _))) (Eq.trans (r_il_n d110_13 rfl) (Eq.trans (r_il_n d110_14 rfl) (Eq.trans (r_iast d110_15 (o_t0.2.2.2.1)) (q_ite (Eq.trans (r_il_n d110_16 rfl) (r_ri d110_17 rt110)) rfl))))))))) rfl))))
theorem e112 {t0 : Nat} {x1 : Int32} {x2 : Int32} : hs_C scr d 112 [.ref t0, .int x1, .int x2] h = hs_R scr d 112 0 [some (.ref t0), some (.int x1), some (.int x2), none, none, none, none] [] h := by rw [hs_C, mL112]; rfl
theorem b112_0 {t0 : Nat} {x1 x2 : Int32}  : hs_R scr d 112 0 [some (.ref t0), some (.int x1), some (.int x2), none, none, none, none] [] (S, I, L, R) = hs_R scr d 112 5 [some (.ref t0), some (.int x1), some (.int x2), some (.int 0), some (.int 0), none, none] [] (S, I, L, R) := Eq.trans (r_ic d112_0 kI_0) (Eq.trans (r_is_n (loc' := [some (.ref t0), some (.int x1), some (.int x2), some (.int 0), none, none, none]) d112_1 rfl) (Eq.trans (r_ic d112_2 kI_0) (Eq.trans (r_is (loc' := [some (.ref t0), some (.int x1), some (.int x2), some (.int 0), some (.int 0), none, none]) d112_3 rfl) (rfl))))
theorem b112_5 {t0 : Nat} {x1 x2 x3 x4 : Int32} {w5 w6 : Option Value} (o_t0 : ok4 S R t0) : hs_R scr d 112 5 [some (.ref t0), some (.int x1), some (.int x2), some (.int x3), some (.int x4), w5, w6] [] (S, I, L, R) = (if (I t0 8) ≤ x4 then some (some (.int x3), (S, I, L, R)) else (if hs_ib x4 5 = true then (if hs_ib x4 5 = true then (if hs_ib x1 8 = true then (if (if 0 ≤ ((I (t0 + 11) (Int32.toNatClampNeg x4)) - (I (t0 + 6) (Int32.toNatClampNeg x1))) then ((I (t0 + 11) (Int32.toNatClampNeg x4)) - (I (t0 + 6) (Int32.toNatClampNeg x1))) else 0 - ((I (t0 + 11) (Int32.toNatClampNeg x4)) - (I (t0 + 6) (Int32.toNatClampNeg x1)))) ≤ (if 0 ≤ ((I (t0 + 11) (Int32.toNatClampNeg x4)) - x2) then ((I (t0 + 11) (Int32.toNatClampNeg x4)) - x2) else 0 - ((I (t0 + 11) (Int32.toNatClampNeg x4)) - x2)) then (if (if 0 ≤ ((I (t0 + 11) (Int32.toNatClampNeg x4)) - x2) then ((I (t0 + 11) (Int32.toNatClampNeg x4)) - x2) else 0 - ((I (t0 + 11) (Int32.toNatClampNeg x4)) - x2)) ≤ (if 0 ≤ ((I (t0 + 11) (Int32.toNatClampNeg x4)) - (I (t0 + 6) (Int32.toNatClampNeg x1))) then ((I (t0 + 11) (Int32.toNatClampNeg x4)) - (I (t0 + 6) (Int32.toNatClampNeg x1))) else 0 - ((I (t0 + 11) (Int32.toNatClampNeg x4)) - (I (t0 + 6) (Int32.toNatClampNeg x1)))) then hs_R scr d 112 87 [some (.ref t0), some (.int x1), some (.int x2), some (.int x3), some (.int x4), some (.int (if 0 ≤ ((I (t0 + 11) (Int32.toNatClampNeg x4)) - x2) then ((I (t0 + 11) (Int32.toNatClampNeg x4)) - x2) else 0 - ((I (t0 + 11) (Int32.toNatClampNeg x4)) - x2))), some (.int (if 0 ≤ ((I (t0 + 11) (Int32.toNatClampNeg x4)) - (I (t0 + 6) (Int32.toNatClampNeg x1))) then ((I (t0 + 11) (Int32.toNatClampNeg x4)) - (I (t0 + 6) (Int32.toNatClampNeg x1))) else 0 - ((I (t0 + 11) (Int32.toNatClampNeg x4)) - (I (t0 + 6) (Int32.toNatClampNeg x1)))))] [] (S, I, L, R) else (if hs_ib x4 5 = true then hs_R scr d 112 87 [some (.ref t0), some (.int x1), some (.int x2), some (.int (x3 - (I (t0 + 10) (Int32.toNatClampNeg x4)))), some (.int x4), some (.int (if 0 ≤ ((I (t0 + 11) (Int32.toNatClampNeg x4)) - x2) then ((I (t0 + 11) (Int32.toNatClampNeg x4)) - x2) else 0 - ((I (t0 + 11) (Int32.toNatClampNeg x4)) - x2))), some (.int (if 0 ≤ ((I (t0 + 11) (Int32.toNatClampNeg x4)) - (I (t0 + 6) (Int32.toNatClampNeg x1))) then ((I (t0 + 11) (Int32.toNatClampNeg x4)) - (I (t0 + 6) (Int32.toNatClampNeg x1))) else 0 - ((I (t0 + 11) (Int32.toNatClampNeg x4)) - (I (t0 + 6) (Int32.toNatClampNeg x1)))))] [] (S, I, L, R) else none)) else (if hs_ib x4 5 = true then hs_R scr d 112 87 [some (.ref t0), some (.int x1), some (.int x2), some (.int (x3 + (I (t0 + 10) (Int32.toNatClampNeg x4)))), some (.int x4), some (.int (if 0 ≤ ((I (t0 + 11) (Int32.toNatClampNeg x4)) - x2) then ((I (t0 + 11) (Int32.toNatClampNeg x4)) - x2) else 0 - ((I (t0 + 11) (Int32.toNatClampNeg x4)) - x2))), some (.int (if 0 ≤ ((I (t0 + 11) (Int32.toNatClampNeg x4)) - (I (t0 + 6) (Int32.toNatClampNeg x1))) then ((I (t0 + 11) (Int32.toNatClampNeg x4)) - (I (t0 + 6) (Int32.toNatClampNeg x1))) else 0 - ((I (t0 + 11) (Int32.toNatClampNeg x4)) - (I (t0 + 6) (Int32.toNatClampNeg x1)))))] [] (S, I, L, R) else none)) else none) else none) else none)) := Eq.trans (r_il d112_5 rfl) (Eq.trans (r_al_n d112_7 rfl) (Eq.trans (r_getI d112_8 f112_52 o_t0.2.1) (Eq.trans (r_cge d112_11 rfl) (q_ite (Eq.trans (r_il_n d112_93 rfl) (r_ri d112_94 rt112)) (Eq.trans (r_al_n d112_14 rfl) (Eq.trans (r_getRe d112_15 f112_29 o_t0.2.1 (o_t0.2.2.2.2.2.2.2.2.1) (Nat.le_trans o_t0.1 (Nat.le_add_right _ _))) (Eq.trans (r_il d112_18 rfl) (Eq.trans (r_iald d112_20 (o_t0.2.2.2.2.2.2.2.2.2.1)) (q_ite (Eq.trans (r_il_n d112_21 rfl) (Eq.trans (r_isub d112_22) (Eq.trans (r_abs d112_23 c112_148 rfl) (Eq.trans (r_is (loc' := [some (.ref t0), some (.int x1), some (.int x2), some (.int x3), some (.int x4), some (.int (if 0 ≤ ((I (t0 + 11) (Int32.toNatClampNeg x4)) - x2) then ((I (t0 + 11) (Int32.toNatClampNeg x4)) - x2) else 0 - ((I (t0 + 11) (Int32.toNatClampNeg x4)) - x2))), w6]) d112_26 rfl) (Eq.trans (r_al_n d112_28 rfl) (Eq.trans (r_getRe d112_29 f112_29 o_t0.2.1 (o_t0.2.2.2.2.2.2.2.2.1) (Nat.le_trans o_t0.1 (Nat.le_add_right _ _))) (Eq.trans (r_il d112_32 rfl) (Eq.trans (r_iald d112_34 (o_t0.2.2.2.2.2.2.2.2.2.1)) (q_ite (Eq.trans (r_al_n d112_35 rfl) (Eq.trans (r_getRe d112_36 f112_21 o_t0.2.1 (o_t0.2.2.2.2.1) (Nat.le_trans o_t0.1 (Nat.le_add_right _ _))) (Eq.trans (r_getRe d112_39 f112_135 (o_t0.2.2.2.2.2.1).2.1 ((o_t0.2.2.2.2.2.1).2.2.1) (Nat.le_trans (o_t0.2.2.2.2.2.1).1 (Nat.le_add_right _ _))) (Eq.trans (r_il_n d112_42 rfl) (Eq.trans (r_iald d112_43 ((o_t0.2.2.2.2.2.1).2.2.2.1)) (q_ite (Eq.trans (r_isub d112_44) (Eq.trans (r_abs d112_45 c112_148 rfl) (Eq.trans (r_is (loc' := [some (.ref t0), some (.int x1), some (.int x2), some (.int x3), some (.int x4), some (.int (if 0 ≤ ((I (t0 + 11) (Int32.toNatClampNeg x4)) - x2) then ((I (t0 + 11) (Int32.toNatClampNeg x4)) - x2) else 0 - ((I (t0 + 11) (Int32.toNatClampNeg x4)) - x2))), some (.int (if 0 ≤ ((I (t0 + 11) (Int32.toNatClampNeg x4)) - (I (t0 + 6) (Int32.toNatClampNeg x1))) then ((I (t0 + 11) (Int32.toNatClampNeg x4)) - (I (t0 + 6) (Int32.toNatClampNeg x1))) else 0 - ((I (t0 + 11) (Int32.toNatClampNeg x4)) - (I (t0 + 6) (Int32.toNatClampNeg x1)))))]) d112_48 rfl) (Eq.trans (r_il d112_50 rfl) (Eq.trans (r_il d112_52 rfl) (Eq.trans (r_cge d112_54 rfl) (q_ite (Eq.trans (r_il d112_70 rfl) (Eq.trans (r_il d112_72 rfl) (Eq.trans (r_cle d112_74 rfl) (q_ite (rfl) (Eq.trans (r_il_n d112_77 rfl) (Eq.trans (r_al_n d112_78 rfl) (Eq.trans (r_getRe d112_79 f112_25 o_t0.2.1 (o_t0.2.2.2.2.2.2.1) (Nat.le_trans o_t0.1 (Nat.le_add_right _ _))) (Eq.trans (r_il d112_82 rfl) (Eq.trans (r_iald d112_84 (o_t0.2.2.2.2.2.2.2.1)) (q_ite (Eq.trans (r_isub d112_85) (Eq.trans (r_is_n (loc' := [some (.ref t0), some (.int x1), some (.int x2), some (.int (x3 - (I (t0 + 10) (Int32.toNatClampNeg x4)))), some (.int x4), some (.int (if 0 ≤ ((I (t0 + 11) (Int32.toNatClampNeg x4)) - x2) then ((I (t0 + 11) (Int32.toNatClampNeg x4)) - x2) else 0 - ((I (t0 + 11) (Int32.toNatClampNeg x4)) - x2))), some (.int (if 0 ≤ ((I (t0 + 11) (Int32.toNatClampNeg x4)) - (I (t0 + 6) (Int32.toNatClampNeg x1))) then ((I (t0 + 11) (Int32.toNatClampNeg x4)) - (I (t0 + 6) (Int32.toNatClampNeg x1))) else 0 - ((I (t0 + 11) (Int32.toNatClampNeg x4)) - (I (t0 + 6) (Int32.toNatClampNeg x1)))))]) d112_86 rfl) (rfl))) rfl)))))))))) (Eq.trans (r_il_n d112_57 rfl) (Eq.trans (r_al_n d112_58 rfl) (Eq.trans (r_getRe d112_59 f112_25 o_t0.2.1 (o_t0.2.2.2.2.2.2.1) (Nat.le_trans o_t0.1 (Nat.le_add_right _ _))) (Eq.trans (r_il d112_62 rfl) (Eq.trans (r_iald d112_64 (o_t0.2.2.2.2.2.2.2.1)) (q_ite (Eq.trans (r_iadd d112_65) (Eq.trans (r_is_n (loc' := [some (.ref t0), some (.int x1), some (.int x2), some (.int (x3 + (I (t0 + 10) (Int32.toNatClampNeg x4)))), some (.int x4), some (.int (if 0 ≤ ((I (t0 + 11) (Int32.toNatClampNeg x4)) - x2) then ((I (t0 + 11) (Int32.toNatClampNeg x4)) - x2) else 0 - ((I (t0 + 11) (Int32.toNatClampNeg x4)) - x2))), some (.int (if 0 ≤ ((I (t0 + 11) (Int32.toNatClampNeg x4)) - (I (t0 + 6) (Int32.toNatClampNeg x1))) then ((I (t0 + 11) (Int32.toNatClampNeg x4)) - (I (t0 + 6) (Int32.toNatClampNeg x1))) else 0 - ((I (t0 + 11) (Int32.toNatClampNeg x4)) - (I (t0 + 6) (Int32.toNatClampNeg x1)))))]) d112_66 rfl) (Eq.trans (r_goto d112_67 rfl) (rfl)))) rfl))))))))))))) rfl)))))) rfl))))))))) rfl)))))))))
theorem b112_87 {t0 : Nat} {x1 x2 x3 x4 x5 x6 : Int32}  : hs_R scr d 112 87 [some (.ref t0), some (.int x1), some (.int x2), some (.int x3), some (.int x4), some (.int x5), some (.int x6)] [] (S, I, L, R) = hs_R scr d 112 5 [some (.ref t0), some (.int x1), some (.int x2), some (.int x3), some (.int (x4 + 1)), some (.int x5), some (.int x6)] [] (S, I, L, R) := Eq.trans (r_inc (loc' := [some (.ref t0), some (.int x1), some (.int x2), some (.int x3), some (.int (x4 + 1)), some (.int x5), some (.int x6)]) d112_87 kI_1 rfl rfl) (Eq.trans (r_goto d112_90 rfl) (rfl))
theorem e114 {t0 : Nat} : hs_C scr d 114 [.ref t0] h = hs_R scr d 114 0 [some (.ref t0)] [] h := by rw [hs_C, mL114]; rfl
theorem b114_0 {t0 : Nat} (o_t0 : ok4 S R t0) : hs_R scr d 114 0 [some (.ref t0)] [] (S, I, L, R) = (if ((I t0 17) + 1) < (I t0 9) then some (some (.int 1), (S, (hs_u I t0 17 ((I t0 17) + 1)), L, R)) else some (some (.int 0), (S, I, L, R))) := Eq.trans (r_al_n d114_0 rfl) (Eq.trans (r_getI d114_1 f114_80 o_t0.2.1) (Eq.trans (r_ic d114_4 kI_1) (Eq.trans (r_iadd d114_5) (Eq.trans (r_al_n d114_6 rfl) (Eq.trans (r_getI d114_7 f114_55 o_t0.2.1) (Eq.trans (r_clt d114_10 rfl) (q_ite (Eq.trans (r_al_n d114_15 rfl) (Eq.trans (r_dup d114_16 rfl) (Eq.trans (r_getI d114_17 f114_80 o_t0.2.1) (Eq.trans (r_ic d114_20 kI_1) (Eq.trans (r_iadd d114_21) (Eq.trans (r_putI d114_22 f114_80 o_t0.2.1) (Eq.trans (r_ic d114_25 kI_1) ((r_rz d114_26 rt114).trans (if_pos (Or.inr rfl)))))))))) (Eq.trans (r_ic d114_13 kI_0) ((r_rz d114_14 rt114).trans (if_pos (Or.inl rfl)))))))))))
theorem e121 {t0 : Nat} {x1 : Int32} {x2 : Int32} : hs_C scr d 121 [.ref t0, .int x1, .int x2] h = hs_R scr d 121 0 [some (.ref t0), some (.int x1), some (.int x2), none, none] [] h := by rw [hs_C, mL121]; rfl
theorem b121_0 {t0 : Nat} {x1 x2 : Int32}  : hs_R scr d 121 0 [some (.ref t0), some (.int x1), some (.int x2), none, none] [] (S, I, L, R) = hs_R scr d 121 2 [some (.ref t0), some (.int x1), some (.int x2), some (.int 0), none] [] (S, I, L, R) := Eq.trans (r_ic d121_0 kI_0) (Eq.trans (r_is_n (loc' := [some (.ref t0), some (.int x1), some (.int x2), some (.int 0), none]) d121_1 rfl) (rfl))
theorem b121_2 {t0 : Nat} {x1 x2 x3 : Int32} {w4 : Option Value} (o_t0 : ok4 S R t0) : hs_R scr (d + 1) 121 2 [some (.ref t0), some (.int x1), some (.int x2), some (.int x3), w4] [] (S, I, L, R) = (if (I (t0 + 5) 4) ≤ x3 then some (some (.int 1), (S, I, L, R)) else ((hs_C scr d 96 [.ref t0, .int x1, .int x3] (S, I, L, R)).bind fun o => hs_R scr (d + 1) 121 19 [some (.ref t0), some (.int x1), some (.int x2), some (.int x3), w4] (o.1.toList ++ []) o.2)) := Eq.trans (r_il_n d121_2 rfl) (Eq.trans (r_al_n d121_3 rfl) (Eq.trans (r_getRe d121_4 f121_21 o_t0.2.1 (o_t0.2.2.2.2.1) (Nat.le_trans o_t0.1 (Nat.le_add_right _ _))) (Eq.trans (r_getI d121_7 f121_51 (o_t0.2.2.2.2.2.1).2.1) (Eq.trans (r_cge d121_10 rfl) (q_ite (Eq.trans (r_ic d121_53 kI_1) ((r_rz d121_54 rt121).trans (if_pos (Or.inr rfl)))) (Eq.trans (r_al_n d121_13 rfl) (Eq.trans (r_il_n d121_14 rfl) (Eq.trans (r_il_n d121_15 rfl) (r_cvE (as := [.int x1, .int x3]) (r := []) d121_16 c121_113 ow96 o_t0.2.1 np96.symm rfl (hs_fitE mL96 (Nat.le_of_ble_eq_true rfl)))))))))))
theorem b121_19 {t0 : Nat} {x1 x2 x3 s0 : Int32} {w4 : Option Value} (o_t0 : ok4 S R t0) : hs_R scr (d + 1) 121 19 [some (.ref t0), some (.int x1), some (.int x2), some (.int x3), w4] [.int s0] (S, I, L, R) = (if s0 = 3 then hs_R scr (d + 1) 121 47 [some (.ref t0), some (.int x1), some (.int x2), some (.int x3), some (.int s0)] [] (S, I, L, R) else ((hs_C scr d 103 [.ref (t0 + 5), .int x3, .int x2, .int (I t0 16)] (S, I, L, R)).bind fun o => hs_R scr (d + 1) 121 42 [some (.ref t0), some (.int x1), some (.int x2), some (.int x3), some (.int s0)] (o.1.toList ++ [.int s0]) o.2)) := Eq.trans (r_is (loc' := [some (.ref t0), some (.int x1), some (.int x2), some (.int x3), some (.int s0)]) d121_19 rfl) (Eq.trans (r_il d121_21 rfl) (Eq.trans (r_ic d121_23 kI_3) (Eq.trans (r_ceq d121_24 rfl) (q_ite (rfl) (Eq.trans (r_il d121_27 rfl) (Eq.trans (r_al_n d121_29 rfl) (Eq.trans (r_getRe d121_30 f121_21 o_t0.2.1 (o_t0.2.2.2.2.1) (Nat.le_trans o_t0.1 (Nat.le_add_right _ _))) (Eq.trans (r_il_n d121_33 rfl) (Eq.trans (r_il_n d121_34 rfl) (Eq.trans (r_al_n d121_35 rfl) (Eq.trans (r_getZ d121_36 f121_76 o_t0.2.1) (r_cvE (as := [.int x3, .int x2, .int (I t0 16)]) (r := [.int s0]) d121_39 c121_117 ow103 (o_t0.2.2.2.2.2.1).2.1 np103.symm rfl (hs_fitE mL103 (Nat.le_of_ble_eq_true rfl))))))))))))))
theorem b121_42 {t0 : Nat} {x1 x2 x3 x4 s0 s1 : Int32}  : hs_R scr d 121 42 [some (.ref t0), some (.int x1), some (.int x2), some (.int x3), some (.int x4)] [.int s1, .int s0] (S, I, L, R) = (if s0 = s1 then hs_R scr d 121 47 [some (.ref t0), some (.int x1), some (.int x2), some (.int x3), some (.int x4)] [] (S, I, L, R) else some (some (.int 0), (S, I, L, R))) := Eq.trans (r_ceq d121_42 rfl) (q_ite (rfl) (Eq.trans (r_ic d121_45 kI_0) ((r_rz d121_46 rt121).trans (if_pos (Or.inl rfl)))))
theorem b121_47 {t0 : Nat} {x1 x2 x3 x4 : Int32}  : hs_R scr d 121 47 [some (.ref t0), some (.int x1), some (.int x2), some (.int x3), some (.int x4)] [] (S, I, L, R) = hs_R scr d 121 2 [some (.ref t0), some (.int x1), some (.int x2), some (.int (x3 + 1)), some (.int x4)] [] (S, I, L, R) := Eq.trans (r_inc (loc' := [some (.ref t0), some (.int x1), some (.int x2), some (.int (x3 + 1)), some (.int x4)]) d121_47 kI_1 rfl rfl) (Eq.trans (r_goto d121_50 rfl) (rfl))
theorem e126 {t0 : Nat} {x1 : Int32} : hs_C scr d 126 [.ref t0, .int x1] h = hs_R scr d 126 0 [some (.ref t0), some (.int x1), none, none, none, none] [] h := by rw [hs_C, mL126]; rfl
theorem b126_0 {t0 : Nat} {x1 : Int32}  : hs_R scr d 126 0 [some (.ref t0), some (.int x1), none, none, none, none] [] (S, I, L, R) = hs_R scr d 126 7 [some (.ref t0), some (.int x1), some (.int 0), some (.int 0), some (.int 0), none] [] (S, I, L, R) := Eq.trans (r_ic d126_0 kI_0) (Eq.trans (r_is_n (loc' := [some (.ref t0), some (.int x1), some (.int 0), none, none, none]) d126_1 rfl) (Eq.trans (r_ic d126_2 kI_0) (Eq.trans (r_is_n (loc' := [some (.ref t0), some (.int x1), some (.int 0), some (.int 0), none, none]) d126_3 rfl) (Eq.trans (r_ic d126_4 kI_0) (Eq.trans (r_is (loc' := [some (.ref t0), some (.int x1), some (.int 0), some (.int 0), some (.int 0), none]) d126_5 rfl) (rfl))))))
theorem b126_7 {t0 : Nat} {x1 x2 x3 x4 : Int32} {w5 : Option Value} (o_t0 : ok4 S R t0) : hs_R scr (d + 1) 126 7 [some (.ref t0), some (.int x1), some (.int x2), some (.int x3), some (.int x4), w5] [] (S, I, L, R) = (if (I (t0 + 5) 4) ≤ x4 then some (some (.int (x2 + x3)), (S, I, L, R)) else ((hs_C scr d 96 [.ref t0, .int x1, .int x4] (S, I, L, R)).bind fun o => hs_R scr (d + 1) 126 26 [some (.ref t0), some (.int x1), some (.int x2), some (.int x3), some (.int x4), w5] (o.1.toList ++ []) o.2)) := Eq.trans (r_il d126_7 rfl) (Eq.trans (r_al_n d126_9 rfl) (Eq.trans (r_getRe d126_10 f126_21 o_t0.2.1 (o_t0.2.2.2.2.1) (Nat.le_trans o_t0.1 (Nat.le_add_right _ _))) (Eq.trans (r_getI d126_13 f126_51 (o_t0.2.2.2.2.2.1).2.1) (Eq.trans (r_cge d126_16 rfl) (q_ite (Eq.trans (r_il_n d126_76 rfl) (Eq.trans (r_il_n d126_77 rfl) (Eq.trans (r_iadd d126_78) (r_ri d126_79 rt126)))) (Eq.trans (r_al_n d126_19 rfl) (Eq.trans (r_il_n d126_20 rfl) (Eq.trans (r_il d126_21 rfl) (r_cvE (as := [.int x1, .int x4]) (r := []) d126_23 c126_113 ow96 o_t0.2.1 np96.symm rfl (hs_fitE mL96 (Nat.le_of_ble_eq_true rfl)))))))))))
theorem b126_26 {t0 : Nat} {x1 x2 x3 x4 s0 : Int32} {w5 : Option Value} (o_t0 : ok4 S R t0) : hs_R scr d 126 26 [some (.ref t0), some (.int x1), some (.int x2), some (.int x3), some (.int x4), w5] [.int s0] (S, I, L, R) = (if s0 = 3 then hs_R scr d 126 70 [some (.ref t0), some (.int x1), some (.int x2), some (.int x3), some (.int x4), some (.int s0)] [] (S, I, L, R) else (if hs_ib x4 8 = true then (if hs_ib x4 8 = true then hs_R scr d 126 70 [some (.ref t0), some (.int x1), some (.int (if x2 < (s0 - (I (t0 + 8) (Int32.toNatClampNeg x4))) then (s0 - (I (t0 + 8) (Int32.toNatClampNeg x4))) else x2)), some (.int (if x3 < ((I (t0 + 8) (Int32.toNatClampNeg x4)) - s0) then ((I (t0 + 8) (Int32.toNatClampNeg x4)) - s0) else x3)), some (.int x4), some (.int s0)] [] (S, I, L, R) else none) else none)) := Eq.trans (r_is (loc' := [some (.ref t0), some (.int x1), some (.int x2), some (.int x3), some (.int x4), some (.int s0)]) d126_26 rfl) (Eq.trans (r_il d126_28 rfl) (Eq.trans (r_ic d126_30 kI_3) (Eq.trans (r_ceq d126_31 rfl) (q_ite (rfl) (Eq.trans (r_il_n d126_34 rfl) (Eq.trans (r_il d126_35 rfl) (Eq.trans (r_al_n d126_37 rfl) (Eq.trans (r_getRe d126_38 f126_21 o_t0.2.1 (o_t0.2.2.2.2.1) (Nat.le_trans o_t0.1 (Nat.le_add_right _ _))) (Eq.trans (r_getRe d126_41 f126_121 (o_t0.2.2.2.2.2.1).2.1 ((o_t0.2.2.2.2.2.1).2.2.2.2.2.2.1) (Nat.le_trans (o_t0.2.2.2.2.2.1).1 (Nat.le_add_right _ _))) (Eq.trans (r_il d126_44 rfl) (Eq.trans (r_iald d126_46 ((o_t0.2.2.2.2.2.1).2.2.2.2.2.2.2.1)) (q_ite (Eq.trans (r_isub d126_47) (Eq.trans (r_max d126_48 c126_124 rfl) (Eq.trans (r_is_n (loc' := [some (.ref t0), some (.int x1), some (.int (if x2 < (s0 - (I (t0 + 8) (Int32.toNatClampNeg x4))) then (s0 - (I (t0 + 8) (Int32.toNatClampNeg x4))) else x2)), some (.int x3), some (.int x4), some (.int s0)]) d126_51 rfl) (Eq.trans (r_il_n d126_52 rfl) (Eq.trans (r_al_n d126_53 rfl) (Eq.trans (r_getRe d126_54 f126_21 o_t0.2.1 (o_t0.2.2.2.2.1) (Nat.le_trans o_t0.1 (Nat.le_add_right _ _))) (Eq.trans (r_getRe d126_57 f126_121 (o_t0.2.2.2.2.2.1).2.1 ((o_t0.2.2.2.2.2.1).2.2.2.2.2.2.1) (Nat.le_trans (o_t0.2.2.2.2.2.1).1 (Nat.le_add_right _ _))) (Eq.trans (r_il d126_60 rfl) (Eq.trans (r_iald d126_62 ((o_t0.2.2.2.2.2.1).2.2.2.2.2.2.2.1)) (q_ite (Eq.trans (r_il d126_63 rfl) (Eq.trans (r_isub d126_65) (Eq.trans (r_max d126_66 c126_124 rfl) (Eq.trans (r_is_n (loc' := [some (.ref t0), some (.int x1), some (.int (if x2 < (s0 - (I (t0 + 8) (Int32.toNatClampNeg x4))) then (s0 - (I (t0 + 8) (Int32.toNatClampNeg x4))) else x2)), some (.int (if x3 < ((I (t0 + 8) (Int32.toNatClampNeg x4)) - s0) then ((I (t0 + 8) (Int32.toNatClampNeg x4)) - s0) else x3)), some (.int x4), some (.int s0)]) d126_69 rfl) (rfl))))) rfl)))))))))) rfl))))))))))))
theorem b126_70 {t0 : Nat} {x1 x2 x3 x4 x5 : Int32}  : hs_R scr d 126 70 [some (.ref t0), some (.int x1), some (.int x2), some (.int x3), some (.int x4), some (.int x5)] [] (S, I, L, R) = hs_R scr d 126 7 [some (.ref t0), some (.int x1), some (.int x2), some (.int x3), some (.int (x4 + 1)), some (.int x5)] [] (S, I, L, R) := Eq.trans (r_inc (loc' := [some (.ref t0), some (.int x1), some (.int x2), some (.int x3), some (.int (x4 + 1)), some (.int x5)]) d126_70 kI_1 rfl rfl) (Eq.trans (r_goto d126_73 rfl) (rfl))
theorem e128 {t0 : Nat} {x1 : Int32} : hs_C scr d 128 [.ref t0, .int x1] h = hs_R scr d 128 0 [some (.ref t0), some (.int x1), none, none] [] h := by rw [hs_C, mL128]; rfl
theorem b128_0 {t0 : Nat} {x1 : Int32}  : hs_R scr d 128 0 [some (.ref t0), some (.int x1), none, none] [] (S, I, L, R) = hs_R scr d 128 4 [some (.ref t0), some (.int x1), some (.int 0), some (.int 0)] [] (S, I, L, R) := Eq.trans (r_ic d128_0 kI_0) (Eq.trans (r_is_n (loc' := [some (.ref t0), some (.int x1), some (.int 0), none]) d128_1 rfl) (Eq.trans (r_ic d128_2 kI_0) (Eq.trans (r_is_n (loc' := [some (.ref t0), some (.int x1), some (.int 0), some (.int 0)]) d128_3 rfl) (rfl))))
theorem b128_4 {t0 : Nat} {x1 x2 x3 : Int32} (o_t0 : ok1 S R t0) : hs_R scr (d + 1) 128 4 [some (.ref t0), some (.int x1), some (.int x2), some (.int x3)] [] (S, I, L, R) = (if x1 < x3 then hs_R scr (d + 1) 128 42 [some (.ref t0), some (.int x1), some (.int x2), some (.int x3)] [] (S, I, L, R) else (if (2 : Int32) < x3 then hs_R scr (d + 1) 128 42 [some (.ref t0), some (.int x1), some (.int x2), some (.int x3)] [] (S, I, L, R) else ((hs_C scr d 129 [.ref t0, .int x3, .int (x1 - x3)] (S, I, L, R)).bind fun o => hs_R scr (d + 1) 128 23 [some (.ref t0), some (.int x1), some (.int x2), some (.int x3)] (o.1.toList ++ [.int x2]) o.2))) := Eq.trans (r_il_n d128_4 rfl) (Eq.trans (r_il_n d128_5 rfl) (Eq.trans (r_cgt d128_6 rfl) (q_ite (rfl) (Eq.trans (r_il_n d128_9 rfl) (Eq.trans (r_ic d128_10 kI_2) (Eq.trans (r_cgt d128_11 rfl) (q_ite (rfl) (Eq.trans (r_il_n d128_14 rfl) (Eq.trans (r_al_n d128_15 rfl) (Eq.trans (r_il_n d128_16 rfl) (Eq.trans (r_il_n d128_17 rfl) (Eq.trans (r_il_n d128_18 rfl) (Eq.trans (r_isub d128_19) (r_cvE (as := [.int x3, .int (x1 - x3)]) (r := [.int x2]) d128_20 c128_47 ow129 o_t0.2.1 np129.symm rfl (hs_fitE mL129 (Nat.le_of_ble_eq_true rfl))))))))))))))))
theorem b128_23 {t0 : Nat} {x1 x2 x3 s0 s1 : Int32} (o_t0 : ok1 S R t0) : hs_R scr (d + 1) 128 23 [some (.ref t0), some (.int x1), some (.int x2), some (.int x3)] [.int s1, .int s0] (S, I, L, R) = ((hs_C scr d 129 [.ref t0, .int (x3 - 1), .int (x1 - x3)] (S, I, L, R)).bind fun o => hs_R scr (d + 1) 128 33 [some (.ref t0), some (.int x1), some (.int x2), some (.int x3)] (o.1.toList ++ [.int s1, .int s0]) o.2) := Eq.trans (r_al_n d128_23 rfl) (Eq.trans (r_il_n d128_24 rfl) (Eq.trans (r_ic d128_25 kI_1) (Eq.trans (r_isub d128_26) (Eq.trans (r_il_n d128_27 rfl) (Eq.trans (r_il_n d128_28 rfl) (Eq.trans (r_isub d128_29) (r_cvE (as := [.int (x3 - 1), .int (x1 - x3)]) (r := [.int s1, .int s0]) d128_30 c128_47 ow129 o_t0.2.1 np129.symm rfl (hs_fitE mL129 (Nat.le_of_ble_eq_true rfl)))))))))
theorem b128_33 {t0 : Nat} {x1 x2 x3 s0 s1 s2 : Int32}  : hs_R scr d 128 33 [some (.ref t0), some (.int x1), some (.int x2), some (.int x3)] [.int s2, .int s1, .int s0] (S, I, L, R) = hs_R scr d 128 4 [some (.ref t0), some (.int x1), some (.int (s0 + (s1 - s2))), some (.int (x3 + 1))] [] (S, I, L, R) := Eq.trans (r_isub d128_33) (Eq.trans (r_iadd d128_34) (Eq.trans (r_is_n (loc' := [some (.ref t0), some (.int x1), some (.int (s0 + (s1 - s2))), some (.int x3)]) d128_35 rfl) (Eq.trans (r_inc (loc' := [some (.ref t0), some (.int x1), some (.int (s0 + (s1 - s2))), some (.int (x3 + 1))]) d128_36 kI_1 rfl rfl) (Eq.trans (r_goto d128_39 rfl) (rfl)))))
theorem b128_42 {t0 : Nat} {x1 x2 x3 : Int32}  : hs_R scr d 128 42 [some (.ref t0), some (.int x1), some (.int x2), some (.int x3)] [] (S, I, L, R) = some (some (.int x2), (S, I, L, R)) := Eq.trans (r_il_n d128_42 rfl) (r_ri d128_43 rt128)
theorem e129 {t0 : Nat} {x1 : Int32} {x2 : Int32} : hs_C scr d 129 [.ref t0, .int x1, .int x2] h = hs_R scr d 129 0 [some (.ref t0), some (.int x1), some (.int x2), none, none, none, none] [] h := by rw [hs_C, mL129]; rfl
theorem b129_0 {t0 : Nat} {x1 x2 : Int32}  : hs_R scr d 129 0 [some (.ref t0), some (.int x1), some (.int x2), none, none, none, none] [] (S, I, L, R) = (if (0 : Int32) ≤ x1 then hs_R scr d 129 11 [some (.ref t0), some (.int x1), some (.int x2), some (.int 1), some (.int 0), none, none] [] (S, I, L, R) else some (some (.int 0), (S, I, L, R))) := Eq.trans (r_il_n d129_0 rfl) (Eq.trans (r_zge d129_1 rfl) (q_ite (Eq.trans (r_ic d129_6 kI_1) (Eq.trans (r_is_n (loc' := [some (.ref t0), some (.int x1), some (.int x2), some (.int 1), none, none, none]) d129_7 rfl) (Eq.trans (r_ic d129_8 kI_0) (Eq.trans (r_is (loc' := [some (.ref t0), some (.int x1), some (.int x2), some (.int 1), some (.int 0), none, none]) d129_9 rfl) (rfl))))) (Eq.trans (r_ic d129_4 kI_0) (r_ri d129_5 rt129))))
theorem b129_11 {t0 : Nat} {x1 x2 x3 x4 : Int32} {w5 w6 : Option Value} (o_t0 : ok1 S R t0) : hs_R scr d 129 11 [some (.ref t0), some (.int x1), some (.int x2), some (.int x3), some (.int x4), w5, w6] [] (S, I, L, R) = (if (I t0 4) ≤ x4 then some (some (.int x3), (S, I, L, R)) else (if hs_ib x4 8 = true then (if hs_ib x4 8 = true then hs_R scr d 129 11 [some (.ref t0), some (.int x1), some (.int x2), some (.int (x3 * (((if ((I (t0 + 3) (Int32.toNatClampNeg x4)) + x1) < (2 : Int32) then ((I (t0 + 3) (Int32.toNatClampNeg x4)) + x1) else (2 : Int32)) - (if (0 : Int32) < ((I (t0 + 3) (Int32.toNatClampNeg x4)) - x2) then ((I (t0 + 3) (Int32.toNatClampNeg x4)) - x2) else (0 : Int32))) + 1))), some (.int (x4 + 1)), some (.int (if ((I (t0 + 3) (Int32.toNatClampNeg x4)) + x1) < (2 : Int32) then ((I (t0 + 3) (Int32.toNatClampNeg x4)) + x1) else (2 : Int32))), some (.int (if (0 : Int32) < ((I (t0 + 3) (Int32.toNatClampNeg x4)) - x2) then ((I (t0 + 3) (Int32.toNatClampNeg x4)) - x2) else (0 : Int32)))] [] (S, I, L, R) else none) else none)) := Eq.trans (r_il d129_11 rfl) (Eq.trans (r_al_n d129_13 rfl) (Eq.trans (r_getI d129_14 f129_24 o_t0.2.1) (Eq.trans (r_cge d129_17 rfl) (q_ite (Eq.trans (r_il_n d129_66 rfl) (r_ri d129_67 rt129)) (Eq.trans (r_ic d129_20 kI_2) (Eq.trans (r_al_n d129_21 rfl) (Eq.trans (r_getRe d129_22 f129_18 o_t0.2.1 (o_t0.2.2.2.2.2.2.1) (Nat.le_trans o_t0.1 (Nat.le_add_right _ _))) (Eq.trans (r_il d129_25 rfl) (Eq.trans (r_iald d129_27 (o_t0.2.2.2.2.2.2.2.1)) (q_ite (Eq.trans (r_il_n d129_28 rfl) (Eq.trans (r_iadd d129_29) (Eq.trans (r_min d129_30 c129_40 rfl) (Eq.trans (r_is (loc' := [some (.ref t0), some (.int x1), some (.int x2), some (.int x3), some (.int x4), some (.int (if ((I (t0 + 3) (Int32.toNatClampNeg x4)) + x1) < (2 : Int32) then ((I (t0 + 3) (Int32.toNatClampNeg x4)) + x1) else (2 : Int32))), w6]) d129_33 rfl) (Eq.trans (r_ic d129_35 kI_0) (Eq.trans (r_al_n d129_36 rfl) (Eq.trans (r_getRe d129_37 f129_18 o_t0.2.1 (o_t0.2.2.2.2.2.2.1) (Nat.le_trans o_t0.1 (Nat.le_add_right _ _))) (Eq.trans (r_il d129_40 rfl) (Eq.trans (r_iald d129_42 (o_t0.2.2.2.2.2.2.2.1)) (q_ite (Eq.trans (r_il_n d129_43 rfl) (Eq.trans (r_isub d129_44) (Eq.trans (r_max d129_45 c129_34 rfl) (Eq.trans (r_is (loc' := [some (.ref t0), some (.int x1), some (.int x2), some (.int x3), some (.int x4), some (.int (if ((I (t0 + 3) (Int32.toNatClampNeg x4)) + x1) < (2 : Int32) then ((I (t0 + 3) (Int32.toNatClampNeg x4)) + x1) else (2 : Int32))), some (.int (if (0 : Int32) < ((I (t0 + 3) (Int32.toNatClampNeg x4)) - x2) then ((I (t0 + 3) (Int32.toNatClampNeg x4)) - x2) else (0 : Int32)))]) d129_48 rfl) (Eq.trans (r_il_n d129_50 rfl) (Eq.trans (r_il d129_51 rfl) (Eq.trans (r_il d129_53 rfl) (Eq.trans (r_isub d129_55) (Eq.trans (r_ic d129_56 kI_1) (Eq.trans (r_iadd d129_57) (Eq.trans (r_imul d129_58) (Eq.trans (r_is_n (loc' := [some (.ref t0), some (.int x1), some (.int x2), some (.int (x3 * (((if ((I (t0 + 3) (Int32.toNatClampNeg x4)) + x1) < (2 : Int32) then ((I (t0 + 3) (Int32.toNatClampNeg x4)) + x1) else (2 : Int32)) - (if (0 : Int32) < ((I (t0 + 3) (Int32.toNatClampNeg x4)) - x2) then ((I (t0 + 3) (Int32.toNatClampNeg x4)) - x2) else (0 : Int32))) + 1))), some (.int x4), some (.int (if ((I (t0 + 3) (Int32.toNatClampNeg x4)) + x1) < (2 : Int32) then ((I (t0 + 3) (Int32.toNatClampNeg x4)) + x1) else (2 : Int32))), some (.int (if (0 : Int32) < ((I (t0 + 3) (Int32.toNatClampNeg x4)) - x2) then ((I (t0 + 3) (Int32.toNatClampNeg x4)) - x2) else (0 : Int32)))]) d129_59 rfl) (Eq.trans (r_inc (loc' := [some (.ref t0), some (.int x1), some (.int x2), some (.int (x3 * (((if ((I (t0 + 3) (Int32.toNatClampNeg x4)) + x1) < (2 : Int32) then ((I (t0 + 3) (Int32.toNatClampNeg x4)) + x1) else (2 : Int32)) - (if (0 : Int32) < ((I (t0 + 3) (Int32.toNatClampNeg x4)) - x2) then ((I (t0 + 3) (Int32.toNatClampNeg x4)) - x2) else (0 : Int32))) + 1))), some (.int (x4 + 1)), some (.int (if ((I (t0 + 3) (Int32.toNatClampNeg x4)) + x1) < (2 : Int32) then ((I (t0 + 3) (Int32.toNatClampNeg x4)) + x1) else (2 : Int32))), some (.int (if (0 : Int32) < ((I (t0 + 3) (Int32.toNatClampNeg x4)) - x2) then ((I (t0 + 3) (Int32.toNatClampNeg x4)) - x2) else (0 : Int32)))]) d129_60 kI_1 rfl rfl) (Eq.trans (r_goto d129_63 rfl) (rfl))))))))))))))) rfl)))))))))) rfl))))))))))
theorem e132 {t0 : Nat} {x1 : Int32} {x2 : Int32} : hs_C scr d 132 [.ref t0, .int x1, .int x2] h = hs_R scr d 132 0 [some (.ref t0), some (.int x1), some (.int x2)] [] h := by rw [hs_C, mL132]; rfl
theorem b132_0 {t0 : Nat} {x1 x2 : Int32} (o_t0 : ok4 S R t0) : hs_R scr (d + 1) 132 0 [some (.ref t0), some (.int x1), some (.int x2)] [] (S, I, L, R) = (if hs_ib x1 8 = true then ((hs_C scr d 133 [.ref t0, .int x1] (S, I, L, R)).bind fun o => hs_R scr (d + 1) 132 17 [some (.ref t0), some (.int x1), some (.int x2)] (o.1.toList ++ [.int x2, .int (I (t0 + 6) (Int32.toNatClampNeg x1)), .int 99]) o.2) else none) := Eq.trans (r_bp d132_0 kB_99) (Eq.trans (r_al_n d132_2 rfl) (Eq.trans (r_getRe d132_3 f132_21 o_t0.2.1 (o_t0.2.2.2.2.1) (Nat.le_trans o_t0.1 (Nat.le_add_right _ _))) (Eq.trans (r_getRe d132_6 f132_135 (o_t0.2.2.2.2.2.1).2.1 ((o_t0.2.2.2.2.2.1).2.2.1) (Nat.le_trans (o_t0.2.2.2.2.2.1).1 (Nat.le_add_right _ _))) (Eq.trans (r_il_n d132_9 rfl) (Eq.trans (r_iald d132_10 ((o_t0.2.2.2.2.2.1).2.2.2.1)) (q_ite (Eq.trans (r_il_n d132_11 rfl) (Eq.trans (r_al_n d132_12 rfl) (Eq.trans (r_il_n d132_13 rfl) (r_cvE (as := [.int x1]) (r := [.int x2, .int (I (t0 + 6) (Int32.toNatClampNeg x1)), .int 99]) d132_14 c132_138 ow133 o_t0.2.1 np133.symm rfl (hs_fitE mL133 (Nat.le_of_ble_eq_true rfl)))))) rfl))))))
theorem b132_17 {t0 : Nat} {x1 x2 s0 s1 s2 s3 : Int32}  : hs_R scr d 132 17 [some (.ref t0), some (.int x1), some (.int x2)] [.int s3, .int s2, .int s1, .int s0] (S, I, L, R) = some (some (.int (if (s1 + (s2 * s3)) < s0 then (s1 + (s2 * s3)) else s0)), (S, I, L, R)) := Eq.trans (r_imul d132_17) (Eq.trans (r_iadd d132_18) (Eq.trans (r_min d132_19 c132_141 rfl) (r_ri d132_22 rt132)))
theorem e133 {t0 : Nat} {x1 : Int32} : hs_C scr d 133 [.ref t0, .int x1] h = hs_R scr d 133 0 [some (.ref t0), some (.int x1)] [] h := by rw [hs_C, mL133]; rfl
theorem b133_0 {t0 : Nat} {x1 : Int32} (o_t0 : ok4 S R t0) : hs_R scr (d + 1) 133 0 [some (.ref t0), some (.int x1)] [] (S, I, L, R) = (if hs_ib x1 8 = true then ((hs_C scr d 101 [.ref t0] (S, I, L, R)).bind fun o => hs_R scr (d + 1) 133 13 [some (.ref t0), some (.int x1)] (o.1.toList ++ [.int (I (t0 + 7) (Int32.toNatClampNeg x1))]) o.2) else none) := Eq.trans (r_al_n d133_0 rfl) (Eq.trans (r_getRe d133_1 f133_21 o_t0.2.1 (o_t0.2.2.2.2.1) (Nat.le_trans o_t0.1 (Nat.le_add_right _ _))) (Eq.trans (r_getRe d133_4 f133_129 (o_t0.2.2.2.2.2.1).2.1 ((o_t0.2.2.2.2.2.1).2.2.2.2.1) (Nat.le_trans (o_t0.2.2.2.2.2.1).1 (Nat.le_add_right _ _))) (Eq.trans (r_il_n d133_7 rfl) (Eq.trans (r_iald d133_8 ((o_t0.2.2.2.2.2.1).2.2.2.2.2.1)) (q_ite (Eq.trans (r_al_n d133_9 rfl) (r_cvE (as := []) (r := [.int (I (t0 + 7) (Int32.toNatClampNeg x1))]) d133_10 c133_132 ow101 o_t0.2.1 np101.symm rfl (hs_fitE mL101 (Nat.le_of_ble_eq_true rfl)))) rfl)))))
theorem b133_13 {t0 : Nat} {x1 s0 s1 : Int32}  : hs_R scr d 133 13 [some (.ref t0), some (.int x1)] [.int s1, .int s0] (S, I, L, R) = some (some (.int (s0 + s1)), (S, I, L, R)) := Eq.trans (r_iadd d133_13) (r_ri d133_14 rt133)
theorem e137 {t0 : Nat} {x1 : Int32} {x2 : Int32} : hs_C scr d 137 [.ref t0, .int x1, .int x2] h = hs_R scr d 137 0 [some (.ref t0), some (.int x1), some (.int x2), none] [] h := by rw [hs_C, mL137]; rfl
theorem b137_0 {t0 : Nat} {x1 x2 : Int32}  : hs_R scr d 137 0 [some (.ref t0), some (.int x1), some (.int x2), none] [] (S, I, L, R) = hs_R scr d 137 2 [some (.ref t0), some (.int x1), some (.int x2), some (.int 1)] [] (S, I, L, R) := Eq.trans (r_ic d137_0 kI_1) (Eq.trans (r_is_n (loc' := [some (.ref t0), some (.int x1), some (.int x2), some (.int 1)]) d137_1 rfl) (rfl))
theorem b137_2 {t0 : Nat} {x1 x2 x3 : Int32} (o_t0 : ok1 S R t0) : hs_R scr (d + 1) 137 2 [some (.ref t0), some (.int x1), some (.int x2), some (.int x3)] [] (S, I, L, R) = (if (I t0 4) ≤ x3 then some (some (.int 1), (S, I, L, R)) else ((hs_C scr d 103 [.ref t0, .int x3, .int x1, .int x2] (S, I, L, R)).bind fun o => hs_R scr (d + 1) 137 17 [some (.ref t0), some (.int x1), some (.int x2), some (.int x3)] (o.1.toList ++ []) o.2)) := Eq.trans (r_il_n d137_2 rfl) (Eq.trans (r_al_n d137_3 rfl) (Eq.trans (r_getI d137_4 f137_24 o_t0.2.1) (Eq.trans (r_cge d137_7 rfl) (q_ite (Eq.trans (r_ic d137_35 kI_1) ((r_rz d137_36 rt137).trans (if_pos (Or.inr rfl)))) (Eq.trans (r_al_n d137_10 rfl) (Eq.trans (r_il_n d137_11 rfl) (Eq.trans (r_il_n d137_12 rfl) (Eq.trans (r_il_n d137_13 rfl) (r_cvE (as := [.int x3, .int x1, .int x2]) (r := []) d137_14 c137_43 ow103 o_t0.2.1 np103.symm rfl (hs_fitE mL103 (Nat.le_of_ble_eq_true rfl)))))))))))
theorem b137_17 {t0 : Nat} {x1 x2 x3 s0 : Int32} (o_t0 : ok1 S R t0) : hs_R scr (d + 1) 137 17 [some (.ref t0), some (.int x1), some (.int x2), some (.int x3)] [.int s0] (S, I, L, R) = ((hs_C scr d 103 [.ref t0, .int 0, .int x1, .int x2] (S, I, L, R)).bind fun o => hs_R scr (d + 1) 137 24 [some (.ref t0), some (.int x1), some (.int x2), some (.int x3)] (o.1.toList ++ [.int s0]) o.2) := Eq.trans (r_al_n d137_17 rfl) (Eq.trans (r_ic d137_18 kI_0) (Eq.trans (r_il_n d137_19 rfl) (Eq.trans (r_il_n d137_20 rfl) (r_cvE (as := [.int 0, .int x1, .int x2]) (r := [.int s0]) d137_21 c137_43 ow103 o_t0.2.1 np103.symm rfl (hs_fitE mL103 (Nat.le_of_ble_eq_true rfl))))))
theorem b137_24 {t0 : Nat} {x1 x2 x3 s0 s1 : Int32}  : hs_R scr d 137 24 [some (.ref t0), some (.int x1), some (.int x2), some (.int x3)] [.int s1, .int s0] (S, I, L, R) = (if s0 = s1 then hs_R scr d 137 2 [some (.ref t0), some (.int x1), some (.int x2), some (.int (x3 + 1))] [] (S, I, L, R) else some (some (.int 0), (S, I, L, R))) := Eq.trans (r_ceq d137_24 rfl) (q_ite (Eq.trans (r_inc (loc' := [some (.ref t0), some (.int x1), some (.int x2), some (.int (x3 + 1))]) d137_29 kI_1 rfl rfl) (Eq.trans (r_goto d137_32 rfl) (rfl))) (Eq.trans (r_ic d137_27 kI_0) ((r_rz d137_28 rt137).trans (if_pos (Or.inl rfl)))))
theorem e150 {t0 : Nat} {x1 : Int32} : hs_C scr d 150 [.ref t0, .int x1] h = hs_R scr d 150 0 [some (.ref t0), some (.int x1), none, none, none, none, none] [] h := by rw [hs_C, mL150]; rfl
theorem b150_0 {t0 : Nat} {x1 : Int32}  : hs_R scr d 150 0 [some (.ref t0), some (.int x1), none, none, none, none, none] [] (S, I, L, R) = hs_R scr d 150 2 [some (.ref t0), some (.int x1), some (.int 0), none, none, none, none] [] (S, I, L, R) := Eq.trans (r_ic d150_0 kI_0) (Eq.trans (r_is_n (loc' := [some (.ref t0), some (.int x1), some (.int 0), none, none, none, none]) d150_1 rfl) (rfl))
theorem b150_2 {t0 : Nat} {x1 x2 : Int32} {w3 w5 : Option Value} (o_t0 : ok9 S R t0) : hs_R scr d 150 2 [some (.ref t0), some (.int x1), some (.int x2), w3, none, w5, none] [] (S, I, L, R) = (if x1 ≤ x2 then hs_R scr d 150 78 [some (.ref t0), some (.int x1), some (.int x2), w3, none, w5, none] [] (S, I, L, R) else (if (I t0 2) ≤ (((2 : Int32) * x2) + 1) then hs_R scr d 150 78 [some (.ref t0), some (.int x1), some (.int x2), w3, none, w5, none] [] (S, I, L, R) else (if hs_ib ((2 : Int32) * x2) 60 = true then (if hs_ib (((2 : Int32) * x2) + 1) 60 = true then (if (lg_cmp (L (t0 + 1) (Int32.toNatClampNeg ((2 : Int32) * x2))) 0) < 0 then hs_R scr d 150 70 [some (.ref t0), some (.int x1), some (.int x2), some (.long (L (t0 + 1) (Int32.toNatClampNeg ((2 : Int32) * x2)))), none, some (.long (L (t0 + 1) (Int32.toNatClampNeg (((2 : Int32) * x2) + 1)))), none] [] (S, I, L, R) else (if (0 : Int32) < (lg_cmp (L (t0 + 1) (Int32.toNatClampNeg ((2 : Int32) * x2))) 200) then hs_R scr d 150 70 [some (.ref t0), some (.int x1), some (.int x2), some (.long (L (t0 + 1) (Int32.toNatClampNeg ((2 : Int32) * x2)))), none, some (.long (L (t0 + 1) (Int32.toNatClampNeg (((2 : Int32) * x2) + 1)))), none] [] (S, I, L, R) else (if (lg_cmp (L (t0 + 1) (Int32.toNatClampNeg (((2 : Int32) * x2) + 1))) 0) < 0 then hs_R scr d 150 70 [some (.ref t0), some (.int x1), some (.int x2), some (.long (L (t0 + 1) (Int32.toNatClampNeg ((2 : Int32) * x2)))), none, some (.long (L (t0 + 1) (Int32.toNatClampNeg (((2 : Int32) * x2) + 1)))), none] [] (S, I, L, R) else (if (lg_cmp (L (t0 + 1) (Int32.toNatClampNeg (((2 : Int32) * x2) + 1))) 99) ≤ 0 then hs_R scr d 150 2 [some (.ref t0), some (.int x1), some (.int (x2 + 1)), some (.long (L (t0 + 1) (Int32.toNatClampNeg ((2 : Int32) * x2)))), none, some (.long (L (t0 + 1) (Int32.toNatClampNeg (((2 : Int32) * x2) + 1)))), none] [] (S, I, L, R) else hs_R scr d 150 70 [some (.ref t0), some (.int x1), some (.int x2), some (.long (L (t0 + 1) (Int32.toNatClampNeg ((2 : Int32) * x2)))), none, some (.long (L (t0 + 1) (Int32.toNatClampNeg (((2 : Int32) * x2) + 1)))), none] [] (S, I, L, R))))) else none) else none))) := Eq.trans (r_il_n d150_2 rfl) (Eq.trans (r_il_n d150_3 rfl) (Eq.trans (r_cge d150_4 rfl) (q_ite (rfl) (Eq.trans (r_ic d150_7 kI_2) (Eq.trans (r_il_n d150_8 rfl) (Eq.trans (r_imul d150_9) (Eq.trans (r_ic d150_10 kI_1) (Eq.trans (r_iadd d150_11) (Eq.trans (r_al_n d150_12 rfl) (Eq.trans (r_getI d150_13 f150_15 o_t0.2.1) (Eq.trans (r_cge d150_16 rfl) (q_ite (rfl) (Eq.trans (r_al_n d150_19 rfl) (Eq.trans (r_getRe d150_20 f150_9 o_t0.2.1 (o_t0.2.2.1) (Nat.le_trans o_t0.1 (Nat.le_add_right _ _))) (Eq.trans (r_ic d150_23 kI_2) (Eq.trans (r_il_n d150_24 rfl) (Eq.trans (r_imul d150_25) (Eq.trans (r_lald d150_26 (o_t0.2.2.2)) (q_ite (Eq.trans (r_ls_n (loc' := [some (.ref t0), some (.int x1), some (.int x2), some (.long (L (t0 + 1) (Int32.toNatClampNeg ((2 : Int32) * x2)))), none, w5, none]) d150_27 rfl) (Eq.trans (r_al_n d150_28 rfl) (Eq.trans (r_getRe d150_29 f150_9 o_t0.2.1 (o_t0.2.2.1) (Nat.le_trans o_t0.1 (Nat.le_add_right _ _))) (Eq.trans (r_ic d150_32 kI_2) (Eq.trans (r_il_n d150_33 rfl) (Eq.trans (r_imul d150_34) (Eq.trans (r_ic d150_35 kI_1) (Eq.trans (r_iadd d150_36) (Eq.trans (r_lald d150_37 (o_t0.2.2.2)) (q_ite (Eq.trans (r_ls (loc' := [some (.ref t0), some (.int x1), some (.int x2), some (.long (L (t0 + 1) (Int32.toNatClampNeg ((2 : Int32) * x2)))), none, some (.long (L (t0 + 1) (Int32.toNatClampNeg (((2 : Int32) * x2) + 1)))), none]) d150_38 rfl) (Eq.trans (r_ll_n d150_40 rfl) (Eq.trans (r_lc d150_41 kL_0) (Eq.trans (r_lcmp d150_42) (Eq.trans (r_zlt d150_43 rfl) (q_ite (rfl) (Eq.trans (r_ll_n d150_46 rfl) (Eq.trans (r_ldc2 d150_47 cl150_30) (Eq.trans (r_lcmp d150_50) (Eq.trans (r_zgt d150_51 rfl) (q_ite (rfl) (Eq.trans (r_ll d150_54 rfl) (Eq.trans (r_lc d150_56 kL_0) (Eq.trans (r_lcmp d150_57) (Eq.trans (r_zlt d150_58 rfl) (q_ite (rfl) (Eq.trans (r_ll d150_61 rfl) (Eq.trans (r_ldc2 d150_63 cl150_32) (Eq.trans (r_lcmp d150_66) (Eq.trans (r_zle d150_67 rfl) (q_ite (Eq.trans (r_inc (loc' := [some (.ref t0), some (.int x1), some (.int (x2 + 1)), some (.long (L (t0 + 1) (Int32.toNatClampNeg ((2 : Int32) * x2)))), none, some (.long (L (t0 + 1) (Int32.toNatClampNeg (((2 : Int32) * x2) + 1)))), none]) d150_72 kI_1 rfl rfl) (Eq.trans (r_goto d150_75 rfl) (rfl))) (rfl)))))))))))))))))))))) rfl)))))))))) rfl)))))))))))))))))))
theorem b150_70 {t0 : Nat} {x1 x2 : Int32} {y3 y5 : Int64}  : hs_R scr d 150 70 [some (.ref t0), some (.int x1), some (.int x2), some (.long y3), none, some (.long y5), none] [] (S, I, L, R) = some (some (.int 0), (S, I, L, R)) := Eq.trans (r_ic d150_70 kI_0) ((r_rz d150_71 rt150).trans (if_pos (Or.inl rfl)))
theorem b150_78 {t0 : Nat} {x1 x2 : Int32} {w3 w5 : Option Value}  : hs_R scr d 150 78 [some (.ref t0), some (.int x1), some (.int x2), w3, none, w5, none] [] (S, I, L, R) = some (some (.int 1), (S, I, L, R)) := Eq.trans (r_ic d150_78 kI_1) ((r_rz d150_79 rt150).trans (if_pos (Or.inr rfl)))
theorem e157 {t0 : Nat} {t1 : Nat} {x2 : Int32} : hs_C scr d 157 [.ref t0, .ref t1, .int x2] h = hs_R scr d 157 0 [some (.ref t0), some (.ref t1), some (.int x2), none] [] h := by rw [hs_C, mL157]; rfl
theorem b157_0 {t0 t1 : Nat} {x2 : Int32} (o_t0 : ok0 S R t0) (o_t1 : ok4 S R t1) : hs_R scr d 157 0 [some (.ref t0), some (.ref t1), some (.int x2), none] [] (S, I, L, R) = hs_R scr d 157 5 [some (.ref t0), some (.ref t1), some (.int x2), none] [] (S, I, L, (hs_u R t0 1 t1)) := Eq.trans (r_al_n d157_0 rfl) (Eq.trans (r_al_n d157_1 rfl) (Eq.trans (r_putR d157_2 f157_15 o_t0.2.1 o_t1.1) (rfl)))
theorem b157_5 {t0 t1 : Nat} {x2 : Int32} (o_t0 : ok0 S R t0) : hs_R scr d 157 5 [some (.ref t0), some (.ref t1), some (.int x2), none] [] (S, I, L, R) = hs_R scr d 157 12 [some (.ref t0), some (.ref t1), some (.int x2), some (.int 0)] [] (S, (hs_u I t0 2 x2), L, R) := Eq.trans (r_al_n d157_5 rfl) (Eq.trans (r_il_n d157_6 rfl) (Eq.trans (r_putI d157_7 f157_19 o_t0.2.1) (Eq.trans (r_ic d157_10 kI_0) (Eq.trans (r_is_n (loc' := [some (.ref t0), some (.ref t1), some (.int x2), some (.int 0)]) d157_11 rfl) (rfl)))))
theorem b157_12 {t0 t1 t0_1 : Nat} {x2 x3 : Int32} (o_t0 : ok0 S R t0) (e_t0_1 : R t0 1 = t0_1) (o_t0_1 : ok4 S R t0_1) : hs_R scr (d + 1) 157 12 [some (.ref t0), some (.ref t1), some (.int x2), some (.int x3)] [] (S, I, L, R) = (if (I (t0_1 + 5) 4) ≤ x3 then some (none, (S, I, L, R)) else ((hs_C scr d 132 [.ref t0_1, .int x3, .int (I t0 2)] (S, I, L, R)).bind fun o => hs_R scr (d + 1) 157 43 [some (.ref t0), some (.ref t1), some (.int x2), some (.int x3)] (o.1.toList ++ [.int x3, .ref (t0 + 1)]) o.2)) := Eq.trans (r_il_n d157_12 rfl) (Eq.trans (r_al_n d157_13 rfl) (Eq.trans (r_getRe d157_14 f157_15 o_t0.2.1 e_t0_1 o_t0_1.1) (Eq.trans (r_getRe d157_17 f157_23 o_t0_1.2.1 (o_t0_1.2.2.2.2.1) (Nat.le_trans o_t0_1.1 (Nat.le_add_right _ _))) (Eq.trans (r_getI d157_20 f157_29 (o_t0_1.2.2.2.2.2.1).2.1) (Eq.trans (r_cge d157_23 rfl) (q_ite (r_rv d157_50 rt157) (Eq.trans (r_al_n d157_26 rfl) (Eq.trans (r_getRe d157_27 f157_9 o_t0.2.1 (o_t0.2.2.1) (Nat.le_trans o_t0.1 (Nat.le_add_right _ _))) (Eq.trans (r_il_n d157_30 rfl) (Eq.trans (r_al_n d157_31 rfl) (Eq.trans (r_getRe d157_32 f157_15 o_t0.2.1 e_t0_1 o_t0_1.1) (Eq.trans (r_il_n d157_35 rfl) (Eq.trans (r_al_n d157_36 rfl) (Eq.trans (r_getI d157_37 f157_19 o_t0.2.1) (r_cvE (as := [.int x3, .int (I t0 2)]) (r := [.int x3, .ref (t0 + 1)]) d157_40 c157_34 ow132 o_t0_1.2.1 np132.symm rfl (hs_fitE mL132 (Nat.le_of_ble_eq_true rfl)))))))))))))))))
theorem b157_43 {t0 t1 u0 n_u0 : Nat} {x2 x3 s1 s2 : Int32} (a_u0 : S[u0]? = some (.inr (.int, n_u0))) : hs_R scr d 157 43 [some (.ref t0), some (.ref t1), some (.int x2), some (.int x3)] [.int s2, .int s1, .ref u0] (S, I, L, R) = (if hs_ib s1 n_u0 = true then hs_R scr d 157 12 [some (.ref t0), some (.ref t1), some (.int x2), some (.int (x3 + 1))] [] (S, (hs_u I u0 (Int32.toNatClampNeg s1) s2), L, R) else none) := Eq.trans (r_iast d157_43 a_u0) (q_ite (Eq.trans (r_inc (loc' := [some (.ref t0), some (.ref t1), some (.int x2), some (.int (x3 + 1))]) d157_44 kI_1 rfl rfl) (Eq.trans (r_goto d157_47 rfl) (rfl))) rfl)
theorem e158 {t0 : Nat} : hs_C scr d 158 [.ref t0] h = hs_R scr d 158 0 [some (.ref t0)] [] h := by rw [hs_C, mL158]; rfl
theorem b158_0 {t0 : Nat} (o_t0 : ok0 S R t0) : hs_R scr (d + 1) 158 0 [some (.ref t0)] [] (S, I, L, R) = ((hs_C scr d 159 [.ref t0] (S, I, L, R)).bind fun o => hs_R scr (d + 1) 158 6 [some (.ref t0)] (o.1.toList ++ [.int 0, .ref t0]) o.2) := Eq.trans (r_al_n d158_0 rfl) (Eq.trans (r_ic d158_1 kI_0) (Eq.trans (r_al_n d158_2 rfl) (r_cvE (as := []) (r := [.int 0, .ref t0]) d158_3 c158_38 ow159 o_t0.2.1 np159.symm rfl (hs_fitE mL159 (Nat.le_of_ble_eq_true rfl)))))
theorem b158_6 {t0 u0 : Nat} {s1 s2 : Int32} (o_u0 : ok0 S R u0) : hs_R scr (d + 1) 158 6 [some (.ref t0)] [.int s2, .int s1, .ref u0] (S, I, L, R) = ((hs_C scr d 161 [.ref u0, .int s1, .int s2] (S, I, L, R)).bind fun o => hs_R scr (d + 1) 158 9 [some (.ref t0)] (o.1.toList ++ []) o.2) := r_cvE (as := [.int s1, .int s2]) (r := []) d158_6 c158_42 ow161 o_u0.2.1 np161.symm rfl (hs_fitE mL161 (Nat.le_of_ble_eq_true rfl))
theorem b158_9 {t0 : Nat} {s0 : Int32}  : hs_R scr d 158 9 [some (.ref t0)] [.int s0] (S, I, L, R) = some (some (.int s0), (S, I, L, R)) := r_ri d158_9 rt158
theorem e159 {t0 : Nat} : hs_C scr d 159 [.ref t0] h = hs_R scr d 159 0 [some (.ref t0), none, none] [] h := by rw [hs_C, mL159]; rfl
theorem b159_0 {t0 : Nat}  : hs_R scr d 159 0 [some (.ref t0), none, none] [] (S, I, L, R) = hs_R scr d 159 4 [some (.ref t0), some (.int 0), some (.int 0)] [] (S, I, L, R) := Eq.trans (r_ic d159_0 kI_0) (Eq.trans (r_is_n (loc' := [some (.ref t0), some (.int 0), none]) d159_1 rfl) (Eq.trans (r_ic d159_2 kI_0) (Eq.trans (r_is_n (loc' := [some (.ref t0), some (.int 0), some (.int 0)]) d159_3 rfl) (rfl))))
theorem b159_4 {t0 t0_1 : Nat} {x1 x2 : Int32} (o_t0 : ok0 S R t0) (e_t0_1 : R t0 1 = t0_1) (o_t0_1 : ok4 S R t0_1) : hs_R scr (d + 1) 159 4 [some (.ref t0), some (.int x1), some (.int x2)] [] (S, I, L, R) = (if (I (t0_1 + 5) 4) ≤ x2 then some (some (.int x1), (S, I, L, R)) else ((hs_C scr d 160 [.ref t0, .int x2] (S, I, L, R)).bind fun o => hs_R scr (d + 1) 159 24 [some (.ref t0), some (.int x1), some (.int x2)] (o.1.toList ++ [.int x1]) o.2)) := Eq.trans (r_il_n d159_4 rfl) (Eq.trans (r_al_n d159_5 rfl) (Eq.trans (r_getRe d159_6 f159_15 o_t0.2.1 e_t0_1 o_t0_1.1) (Eq.trans (r_getRe d159_9 f159_23 o_t0_1.2.1 (o_t0_1.2.2.2.2.1) (Nat.le_trans o_t0_1.1 (Nat.le_add_right _ _))) (Eq.trans (r_getI d159_12 f159_29 (o_t0_1.2.2.2.2.2.1).2.1) (Eq.trans (r_cge d159_15 rfl) (q_ite (Eq.trans (r_il_n d159_39 rfl) (r_ri d159_40 rt159)) (Eq.trans (r_il_n d159_18 rfl) (Eq.trans (r_al_n d159_19 rfl) (Eq.trans (r_il_n d159_20 rfl) (r_cvE (as := [.int x2]) (r := [.int x1]) d159_21 c159_52 ow160 o_t0.2.1 np160.symm rfl (hs_fitE mL160 (Nat.le_of_ble_eq_true rfl))))))))))))
theorem b159_24 {t0 : Nat} {x1 x2 s0 s1 : Int32} (o_t0 : ok0 S R t0) : hs_R scr d 159 24 [some (.ref t0), some (.int x1), some (.int x2)] [.int s1, .int s0] (S, I, L, R) = (if hs_ib x2 8 = true then hs_R scr d 159 4 [some (.ref t0), some (.int (s0 + (s1 * (I (t0 + 1) (Int32.toNatClampNeg x2))))), some (.int (x2 + 1))] [] (S, I, L, R) else none) := Eq.trans (r_al_n d159_24 rfl) (Eq.trans (r_getRe d159_25 f159_9 o_t0.2.1 (o_t0.2.2.1) (Nat.le_trans o_t0.1 (Nat.le_add_right _ _))) (Eq.trans (r_il_n d159_28 rfl) (Eq.trans (r_iald d159_29 (o_t0.2.2.2)) (q_ite (Eq.trans (r_imul d159_30) (Eq.trans (r_iadd d159_31) (Eq.trans (r_is_n (loc' := [some (.ref t0), some (.int (s0 + (s1 * (I (t0 + 1) (Int32.toNatClampNeg x2))))), some (.int x2)]) d159_32 rfl) (Eq.trans (r_inc (loc' := [some (.ref t0), some (.int (s0 + (s1 * (I (t0 + 1) (Int32.toNatClampNeg x2))))), some (.int (x2 + 1))]) d159_33 kI_1 rfl rfl) (Eq.trans (r_goto d159_36 rfl) (rfl)))))) rfl))))
theorem e160 {t0 : Nat} {x1 : Int32} : hs_C scr d 160 [.ref t0, .int x1] h = hs_R scr d 160 0 [some (.ref t0), some (.int x1)] [] h := by rw [hs_C, mL160]; rfl
theorem b160_0 {t0 t0_1 : Nat} {x1 : Int32} (o_t0 : ok0 S R t0) (e_t0_1 : R t0 1 = t0_1) (o_t0_1 : ok4 S R t0_1) : hs_R scr d 160 0 [some (.ref t0), some (.int x1)] [] (S, I, L, R) = (if ((I (t0_1 + 5) 4) / 2) ≤ x1 then hs_R scr d 160 21 [some (.ref t0), some (.int x1)] [.int (-1)] (S, I, L, R) else hs_R scr d 160 21 [some (.ref t0), some (.int x1)] [.int 1] (S, I, L, R)) := Eq.trans (r_il_n d160_0 rfl) (Eq.trans (r_al_n d160_1 rfl) (Eq.trans (r_getRe d160_2 f160_15 o_t0.2.1 e_t0_1 o_t0_1.1) (Eq.trans (r_getRe d160_5 f160_23 o_t0_1.2.1 (o_t0_1.2.2.2.2.1) (Nat.le_trans o_t0_1.1 (Nat.le_add_right _ _))) (Eq.trans (r_getI d160_8 f160_29 (o_t0_1.2.2.2.2.2.1).2.1) (Eq.trans (r_ic d160_11 kI_2) (Eq.trans ((r_idiv d160_12).trans (if_neg nzI_2)) (Eq.trans (r_cge d160_13 rfl) (q_ite (Eq.trans (r_ic d160_20 kI_m1) (rfl)) (Eq.trans (r_ic d160_16 kI_1) (Eq.trans (r_goto d160_17 rfl) (rfl)))))))))))
theorem b160_21 {t0 : Nat} {x1 s0 : Int32}  : hs_R scr d 160 21 [some (.ref t0), some (.int x1)] [.int s0] (S, I, L, R) = some (some (.int s0), (S, I, L, R)) := r_ri d160_21 rt160
theorem e161 {t0 : Nat} {x1 : Int32} {x2 : Int32} : hs_C scr d 161 [.ref t0, .int x1, .int x2] h = hs_R scr d 161 0 [some (.ref t0), some (.int x1), some (.int x2), none, none, none] [] h := by rw [hs_C, mL161]; rfl
theorem b161_0 {t0 : Nat} {x1 x2 : Int32} (o_t0 : ok0 S R t0) : hs_R scr (d + 1) 161 0 [some (.ref t0), some (.int x1), some (.int x2), none, none, none] [] (S, I, L, R) = (if x1 < (I t0 2) then ((hs_C scr d 161 [.ref t0, .int (x1 + 1), .int x2] (S, I, L, R)).bind fun o => hs_R scr (d + 1) 161 18 [some (.ref t0), some (.int x1), some (.int x2), none, none, none] (o.1.toList ++ []) o.2) else some (some (.int x2), (S, I, L, R))) := Eq.trans (r_il_n d161_0 rfl) (Eq.trans (r_al_n d161_1 rfl) (Eq.trans (r_getI d161_2 f161_19 o_t0.2.1) (Eq.trans (r_clt d161_5 rfl) (q_ite (Eq.trans (r_al_n d161_10 rfl) (Eq.trans (r_il_n d161_11 rfl) (Eq.trans (r_ic d161_12 kI_1) (Eq.trans (r_iadd d161_13) (Eq.trans (r_il_n d161_14 rfl) (r_cvE (as := [.int (x1 + 1), .int x2]) (r := []) d161_15 c161_42 ow161 o_t0.2.1 np161.symm rfl (hs_fitE mL161 (Nat.le_of_ble_eq_true rfl)))))))) (Eq.trans (r_il_n d161_8 rfl) (r_ri d161_9 rt161))))))
theorem b161_18 {t0 : Nat} {x1 x2 s0 : Int32}  : hs_R scr d 161 18 [some (.ref t0), some (.int x1), some (.int x2), none, none, none] [.int s0] (S, I, L, R) = hs_R scr d 161 22 [some (.ref t0), some (.int x1), some (.int x2), some (.int s0), some (.int 0), none] [] (S, I, L, R) := Eq.trans (r_is_n (loc' := [some (.ref t0), some (.int x1), some (.int x2), some (.int s0), none, none]) d161_18 rfl) (Eq.trans (r_ic d161_19 kI_0) (Eq.trans (r_is (loc' := [some (.ref t0), some (.int x1), some (.int x2), some (.int s0), some (.int 0), none]) d161_20 rfl) (rfl)))
theorem b161_22 {t0 t0_1 : Nat} {x1 x2 x3 x4 : Int32} {w5 : Option Value} (o_t0 : ok0 S R t0) (e_t0_1 : R t0 1 = t0_1) (o_t0_1 : ok4 S R t0_1) : hs_R scr (d + 1) 161 22 [some (.ref t0), some (.int x1), some (.int x2), some (.int x3), some (.int x4), w5] [] (S, I, L, R) = (if (I (t0_1 + 5) 4) ≤ x4 then some (some (.int x3), (S, I, L, R)) else ((hs_C scr d 162 [.ref t0, .int x4, .int x1, .int x2] (S, I, L, R)).bind fun o => hs_R scr (d + 1) 161 45 [some (.ref t0), some (.int x1), some (.int x2), some (.int x3), some (.int x4), w5] (o.1.toList ++ []) o.2)) := Eq.trans (r_il d161_22 rfl) (Eq.trans (r_al_n d161_24 rfl) (Eq.trans (r_getRe d161_25 f161_15 o_t0.2.1 e_t0_1 o_t0_1.1) (Eq.trans (r_getRe d161_28 f161_23 o_t0_1.2.1 (o_t0_1.2.2.2.2.1) (Nat.le_trans o_t0_1.1 (Nat.le_add_right _ _))) (Eq.trans (r_getI d161_31 f161_29 (o_t0_1.2.2.2.2.2.1).2.1) (Eq.trans (r_cge d161_34 rfl) (q_ite (Eq.trans (r_il_n d161_75 rfl) (r_ri d161_76 rt161)) (Eq.trans (r_al_n d161_37 rfl) (Eq.trans (r_il d161_38 rfl) (Eq.trans (r_il_n d161_40 rfl) (Eq.trans (r_il_n d161_41 rfl) (r_cvE (as := [.int x4, .int x1, .int x2]) (r := []) d161_42 c161_48 ow162 o_t0.2.1 np162.symm rfl (hs_fitE mL162 (Nat.le_of_ble_eq_true rfl)))))))))))))
theorem b161_45 {t0 : Nat} {x1 x2 x3 x4 s0 : Int32} {w5 : Option Value}  : hs_R scr d 161 45 [some (.ref t0), some (.int x1), some (.int x2), some (.int x3), some (.int x4), w5] [.int s0] (S, I, L, R) = (if (x1 - x1 / 2 * 2) = 0 then hs_R scr d 161 68 [some (.ref t0), some (.int x1), some (.int x2), some (.int x3), some (.int x4), some (.int s0)] [.int (if x3 < s0 then s0 else x3)] (S, I, L, R) else hs_R scr d 161 68 [some (.ref t0), some (.int x1), some (.int x2), some (.int x3), some (.int x4), some (.int s0)] [.int (if s0 < x3 then s0 else x3)] (S, I, L, R)) := Eq.trans (r_is (loc' := [some (.ref t0), some (.int x1), some (.int x2), some (.int x3), some (.int x4), some (.int s0)]) d161_45 rfl) (Eq.trans (r_il_n d161_47 rfl) (Eq.trans (r_ic d161_48 kI_2) (Eq.trans ((r_irem d161_49).trans (if_neg nzI_2)) (Eq.trans (r_zne d161_50 rfl) (q_ite (Eq.trans (r_il_n d161_53 rfl) (Eq.trans (r_il d161_54 rfl) (Eq.trans (r_max d161_56 c161_56 rfl) (Eq.trans (r_goto d161_59 rfl) (rfl))))) (Eq.trans (r_il_n d161_62 rfl) (Eq.trans (r_il d161_63 rfl) (Eq.trans (r_min d161_65 c161_61 rfl) (rfl)))))))))
theorem b161_68 {t0 : Nat} {x1 x2 x3 x4 x5 s0 : Int32}  : hs_R scr d 161 68 [some (.ref t0), some (.int x1), some (.int x2), some (.int x3), some (.int x4), some (.int x5)] [.int s0] (S, I, L, R) = hs_R scr d 161 22 [some (.ref t0), some (.int x1), some (.int x2), some (.int s0), some (.int (x4 + 1)), some (.int x5)] [] (S, I, L, R) := Eq.trans (r_is_n (loc' := [some (.ref t0), some (.int x1), some (.int x2), some (.int s0), some (.int x4), some (.int x5)]) d161_68 rfl) (Eq.trans (r_inc (loc' := [some (.ref t0), some (.int x1), some (.int x2), some (.int s0), some (.int (x4 + 1)), some (.int x5)]) d161_69 kI_1 rfl rfl) (Eq.trans (r_goto d161_72 rfl) (rfl)))
theorem e162 {t0 : Nat} {x1 : Int32} {x2 : Int32} {x3 : Int32} : hs_C scr d 162 [.ref t0, .int x1, .int x2, .int x3] h = hs_R scr d 162 0 [some (.ref t0), some (.int x1), some (.int x2), some (.int x3), none, none] [] h := by rw [hs_C, mL162]; rfl
theorem b162_0 {t0 t0_1 : Nat} {x1 x2 x3 : Int32} (o_t0 : ok0 S R t0) (e_t0_1 : R t0 1 = t0_1) (o_t0_1 : ok4 S R t0_1) : hs_R scr (d + 1) 162 0 [some (.ref t0), some (.int x1), some (.int x2), some (.int x3), none, none] [] (S, I, L, R) = (if hs_ib x1 8 = true then ((hs_C scr d 133 [.ref t0_1, .int x1] (S, I, L, R)).bind fun o => hs_R scr (d + 1) 162 29 [some (.ref t0), some (.int x1), some (.int x2), some (.int x3), some (.int (I (t0 + 1) (Int32.toNatClampNeg x1))), none] (o.1.toList ++ [.int ((I t0 2) - x2), .int 99, .int x1, .ref (t0 + 1)]) o.2) else none) := Eq.trans (r_al_n d162_0 rfl) (Eq.trans (r_getRe d162_1 f162_9 o_t0.2.1 (o_t0.2.2.1) (Nat.le_trans o_t0.1 (Nat.le_add_right _ _))) (Eq.trans (r_il_n d162_4 rfl) (Eq.trans (r_iald d162_5 (o_t0.2.2.2)) (q_ite (Eq.trans (r_is (loc' := [some (.ref t0), some (.int x1), some (.int x2), some (.int x3), some (.int (I (t0 + 1) (Int32.toNatClampNeg x1))), none]) d162_6 rfl) (Eq.trans (r_al_n d162_8 rfl) (Eq.trans (r_getRe d162_9 f162_9 o_t0.2.1 (o_t0.2.2.1) (Nat.le_trans o_t0.1 (Nat.le_add_right _ _))) (Eq.trans (r_il_n d162_12 rfl) (Eq.trans (r_bp d162_13 kB_99) (Eq.trans (r_al_n d162_15 rfl) (Eq.trans (r_getI d162_16 f162_19 o_t0.2.1) (Eq.trans (r_il_n d162_19 rfl) (Eq.trans (r_isub d162_20) (Eq.trans (r_al_n d162_21 rfl) (Eq.trans (r_getRe d162_22 f162_15 o_t0.2.1 e_t0_1 o_t0_1.1) (Eq.trans (r_il_n d162_25 rfl) (r_cvE (as := [.int x1]) (r := [.int ((I t0 2) - x2), .int 99, .int x1, .ref (t0 + 1)]) d162_26 c162_64 ow133 o_t0_1.2.1 np133.symm rfl (hs_fitE mL133 (Nat.le_of_ble_eq_true rfl))))))))))))))) rfl))))
theorem b162_29 {t0 u0 n_u0 : Nat} {x1 x2 x3 x4 s1 s2 s3 s4 : Int32} (a_u0 : S[u0]? = some (.inr (.int, n_u0))) (o_t0 : ok0 S R t0) : hs_R scr (d + 1) 162 29 [some (.ref t0), some (.int x1), some (.int x2), some (.int x3), some (.int x4), none] [.int s4, .int s3, .int s2, .int s1, .ref u0] (S, I, L, R) = (if hs_ib s1 n_u0 = true then ((hs_C scr d 160 [.ref t0, .int x1] (S, (hs_u I u0 (Int32.toNatClampNeg s1) (if (s3 * s4) < s2 then (s3 * s4) else s2)), L, R)).bind fun o => hs_R scr (d + 1) 162 44 [some (.ref t0), some (.int x1), some (.int x2), some (.int x3), some (.int x4), none] (o.1.toList ++ [.int x3, .int (x2 + 1), .ref t0]) o.2) else none) := Eq.trans (r_imul d162_29) (Eq.trans (r_min d162_30 c162_61 rfl) (Eq.trans (r_iast d162_33 a_u0) (q_ite (Eq.trans (r_al_n d162_34 rfl) (Eq.trans (r_il_n d162_35 rfl) (Eq.trans (r_ic d162_36 kI_1) (Eq.trans (r_iadd d162_37) (Eq.trans (r_il_n d162_38 rfl) (Eq.trans (r_al_n d162_39 rfl) (Eq.trans (r_il_n d162_40 rfl) (r_cvE (as := [.int x1]) (r := [.int x3, .int (x2 + 1), .ref t0]) d162_41 c162_52 ow160 o_t0.2.1 np160.symm rfl (hs_fitE mL160 (Nat.le_of_ble_eq_true rfl)))))))))) rfl)))
theorem b162_44 {t0 u0 : Nat} {x1 x2 x3 x4 s1 s2 s3 : Int32} (o_t0 : ok0 S R t0) (o_u0 : ok0 S R u0) : hs_R scr (d + 1) 162 44 [some (.ref t0), some (.int x1), some (.int x2), some (.int x3), some (.int x4), none] [.int s3, .int s2, .int s1, .ref u0] (S, I, L, R) = (if hs_ib x1 8 = true then ((hs_C scr d 161 [.ref u0, .int s1, .int (s2 + (s3 * ((I (t0 + 1) (Int32.toNatClampNeg x1)) - x4)))] (S, I, L, R)).bind fun o => hs_R scr (d + 1) 162 58 [some (.ref t0), some (.int x1), some (.int x2), some (.int x3), some (.int x4), none] (o.1.toList ++ []) o.2) else none) := Eq.trans (r_al_n d162_44 rfl) (Eq.trans (r_getRe d162_45 f162_9 o_t0.2.1 (o_t0.2.2.1) (Nat.le_trans o_t0.1 (Nat.le_add_right _ _))) (Eq.trans (r_il_n d162_48 rfl) (Eq.trans (r_iald d162_49 (o_t0.2.2.2)) (q_ite (Eq.trans (r_il d162_50 rfl) (Eq.trans (r_isub d162_52) (Eq.trans (r_imul d162_53) (Eq.trans (r_iadd d162_54) (r_cvE (as := [.int s1, .int (s2 + (s3 * ((I (t0 + 1) (Int32.toNatClampNeg x1)) - x4)))]) (r := []) d162_55 c162_42 ow161 o_u0.2.1 np161.symm rfl (hs_fitE mL161 (Nat.le_of_ble_eq_true rfl))))))) rfl))))
theorem b162_58 {t0 : Nat} {x1 x2 x3 x4 s0 : Int32} (o_t0 : ok0 S R t0) : hs_R scr d 162 58 [some (.ref t0), some (.int x1), some (.int x2), some (.int x3), some (.int x4), none] [.int s0] (S, I, L, R) = (if hs_ib x1 8 = true then some (some (.int s0), (S, (hs_u I (t0 + 1) (Int32.toNatClampNeg x1) x4), L, R)) else none) := Eq.trans (r_is (loc' := [some (.ref t0), some (.int x1), some (.int x2), some (.int x3), some (.int x4), some (.int s0)]) d162_58 rfl) (Eq.trans (r_al_n d162_60 rfl) (Eq.trans (r_getRe d162_61 f162_9 o_t0.2.1 (o_t0.2.2.1) (Nat.le_trans o_t0.1 (Nat.le_add_right _ _))) (Eq.trans (r_il_n d162_64 rfl) (Eq.trans (r_il d162_65 rfl) (Eq.trans (r_iast d162_67 (o_t0.2.2.2)) (q_ite (Eq.trans (r_il d162_68 rfl) (r_ri d162_70 rt162)) rfl))))))
theorem e164 {t0 : Nat} : hs_C scr d 164 [.ref t0] h = hs_R scr d 164 0 [some (.ref t0), none, none, none] [] h := by rw [hs_C, mL164]; rfl
theorem b164_0 {t0 : Nat} (o_t0 : ok0 S R t0) : hs_R scr (d + 1) 164 0 [some (.ref t0), none, none, none] [] (S, I, L, R) = ((hs_C scr d 158 [.ref t0] (S, I, L, R)).bind fun o => hs_R scr (d + 1) 164 4 [some (.ref t0), none, none, none] (o.1.toList ++ []) o.2) := Eq.trans (r_al_n d164_0 rfl) (r_cvE (as := []) (r := []) d164_1 c164_45 ow158 o_t0.2.1 np158.symm rfl (hs_fitE mL158 (Nat.le_of_ble_eq_true rfl)))
theorem b164_4 {t0 : Nat} {s0 : Int32} (o_t0 : ok0 S R t0) : hs_R scr (d + 1) 164 4 [some (.ref t0), none, none, none] [.int s0] (S, I, L, R) = ((hs_C scr d 159 [.ref t0] (S, I, L, R)).bind fun o => hs_R scr (d + 1) 164 9 [some (.ref t0), some (.int s0), none, none] (o.1.toList ++ []) o.2) := Eq.trans (r_is_n (loc' := [some (.ref t0), some (.int s0), none, none]) d164_4 rfl) (Eq.trans (r_al_n d164_5 rfl) (r_cvE (as := []) (r := []) d164_6 c164_38 ow159 o_t0.2.1 np159.symm rfl (hs_fitE mL159 (Nat.le_of_ble_eq_true rfl))))
theorem b164_9 {t0 : Nat} {x1 s0 : Int32}  : hs_R scr d 164 9 [some (.ref t0), some (.int x1), none, none] [.int s0] (S, I, L, R) = hs_R scr d 164 12 [some (.ref t0), some (.int x1), some (.int s0), some (.int 0)] [] (S, I, L, R) := Eq.trans (r_is_n (loc' := [some (.ref t0), some (.int x1), some (.int s0), none]) d164_9 rfl) (Eq.trans (r_ic d164_10 kI_0) (Eq.trans (r_is_n (loc' := [some (.ref t0), some (.int x1), some (.int s0), some (.int 0)]) d164_11 rfl) (rfl)))
theorem b164_12 {t0 t0_1 : Nat} {x1 x2 x3 : Int32} (o_t0 : ok0 S R t0) (e_t0_1 : R t0 1 = t0_1) (o_t0_1 : ok4 S R t0_1) : hs_R scr (d + 1) 164 12 [some (.ref t0), some (.int x1), some (.int x2), some (.int x3)] [] (S, I, L, R) = (if (I (t0_1 + 5) 4) ≤ x3 then some (some (.int (-1)), (S, I, L, R)) else ((hs_C scr d 162 [.ref t0, .int x3, .int 0, .int x2] (S, I, L, R)).bind fun o => hs_R scr (d + 1) 164 33 [some (.ref t0), some (.int x1), some (.int x2), some (.int x3)] (o.1.toList ++ []) o.2)) := Eq.trans (r_il_n d164_12 rfl) (Eq.trans (r_al_n d164_13 rfl) (Eq.trans (r_getRe d164_14 f164_15 o_t0.2.1 e_t0_1 o_t0_1.1) (Eq.trans (r_getRe d164_17 f164_23 o_t0_1.2.1 (o_t0_1.2.2.2.2.1) (Nat.le_trans o_t0_1.1 (Nat.le_add_right _ _))) (Eq.trans (r_getI d164_20 f164_29 (o_t0_1.2.2.2.2.2.1).2.1) (Eq.trans (r_cge d164_23 rfl) (q_ite (Eq.trans (r_ic d164_45 kI_m1) (r_ri d164_46 rt164)) (Eq.trans (r_al_n d164_26 rfl) (Eq.trans (r_il_n d164_27 rfl) (Eq.trans (r_ic d164_28 kI_0) (Eq.trans (r_il_n d164_29 rfl) (r_cvE (as := [.int x3, .int 0, .int x2]) (r := []) d164_30 c164_48 ow162 o_t0.2.1 np162.symm rfl (hs_fitE mL162 (Nat.le_of_ble_eq_true rfl)))))))))))))
theorem b164_33 {t0 : Nat} {x1 x2 x3 s0 : Int32}  : hs_R scr d 164 33 [some (.ref t0), some (.int x1), some (.int x2), some (.int x3)] [.int s0] (S, I, L, R) = (if s0 = x1 then some (some (.int x3), (S, I, L, R)) else hs_R scr d 164 12 [some (.ref t0), some (.int x1), some (.int x2), some (.int (x3 + 1))] [] (S, I, L, R)) := Eq.trans (r_il_n d164_33 rfl) (Eq.trans (r_cne d164_34 rfl) (q_ite (Eq.trans (r_il_n d164_37 rfl) (r_ri d164_38 rt164)) (Eq.trans (r_inc (loc' := [some (.ref t0), some (.int x1), some (.int x2), some (.int (x3 + 1))]) d164_39 kI_1 rfl rfl) (Eq.trans (r_goto d164_42 rfl) (rfl)))))
theorem e166 {t0 : Nat} {x1 : Int32} : hs_C scr d 166 [.ref t0, .int x1] h = hs_R scr d 166 0 [some (.ref t0), some (.int x1), none, none] [] h := by rw [hs_C, mL166]; rfl
theorem b166_0 {t0 : Nat} {x1 : Int32}  : hs_R scr d 166 0 [some (.ref t0), some (.int x1), none, none] [] (S, I, L, R) = hs_R scr d 166 4 [some (.ref t0), some (.int x1), some (.int 0), some (.int 0)] [] (S, I, L, R) := Eq.trans (r_ic d166_0 kI_0) (Eq.trans (r_is_n (loc' := [some (.ref t0), some (.int x1), some (.int 0), none]) d166_1 rfl) (Eq.trans (r_ic d166_2 kI_0) (Eq.trans (r_is_n (loc' := [some (.ref t0), some (.int x1), some (.int 0), some (.int 0)]) d166_3 rfl) (rfl))))
theorem b166_4 {t0 : Nat} {x1 x2 x3 : Int32} (o_t0 : ok4 S R t0) : hs_R scr (d + 1) 166 4 [some (.ref t0), some (.int x1), some (.int x2), some (.int x3)] [] (S, I, L, R) = (if (I (t0 + 5) 4) ≤ x3 then some (some (.int x2), (S, I, L, R)) else ((hs_C scr d 96 [.ref t0, .int x1, .int x3] (S, I, L, R)).bind fun o => hs_R scr (d + 1) 166 21 [some (.ref t0), some (.int x1), some (.int x2), some (.int x3)] (o.1.toList ++ []) o.2)) := Eq.trans (r_il_n d166_4 rfl) (Eq.trans (r_al_n d166_5 rfl) (Eq.trans (r_getRe d166_6 f166_21 o_t0.2.1 (o_t0.2.2.2.2.1) (Nat.le_trans o_t0.1 (Nat.le_add_right _ _))) (Eq.trans (r_getI d166_9 f166_51 (o_t0.2.2.2.2.2.1).2.1) (Eq.trans (r_cge d166_12 rfl) (q_ite (Eq.trans (r_il_n d166_34 rfl) (r_ri d166_35 rt166)) (Eq.trans (r_al_n d166_15 rfl) (Eq.trans (r_il_n d166_16 rfl) (Eq.trans (r_il_n d166_17 rfl) (r_cvE (as := [.int x1, .int x3]) (r := []) d166_18 c166_113 ow96 o_t0.2.1 np96.symm rfl (hs_fitE mL96 (Nat.le_of_ble_eq_true rfl)))))))))))
theorem b166_21 {t0 : Nat} {x1 x2 x3 s0 : Int32}  : hs_R scr d 166 21 [some (.ref t0), some (.int x1), some (.int x2), some (.int x3)] [.int s0] (S, I, L, R) = (if s0 = 3 then hs_R scr d 166 28 [some (.ref t0), some (.int x1), some (.int x2), some (.int x3)] [] (S, I, L, R) else hs_R scr d 166 28 [some (.ref t0), some (.int x1), some (.int (x2 + 1)), some (.int x3)] [] (S, I, L, R)) := Eq.trans (r_ic d166_21 kI_3) (Eq.trans (r_ceq d166_22 rfl) (q_ite (rfl) (Eq.trans (r_inc (loc' := [some (.ref t0), some (.int x1), some (.int (x2 + 1)), some (.int x3)]) d166_25 kI_1 rfl rfl) (rfl))))
theorem b166_28 {t0 : Nat} {x1 x2 x3 : Int32}  : hs_R scr d 166 28 [some (.ref t0), some (.int x1), some (.int x2), some (.int x3)] [] (S, I, L, R) = hs_R scr d 166 4 [some (.ref t0), some (.int x1), some (.int x2), some (.int (x3 + 1))] [] (S, I, L, R) := Eq.trans (r_inc (loc' := [some (.ref t0), some (.int x1), some (.int x2), some (.int (x3 + 1))]) d166_28 kI_1 rfl rfl) (Eq.trans (r_goto d166_31 rfl) (rfl))
theorem e172 {t0 : Nat} {t1 : Nat} {t2 : Nat} {x3 : Int32} : hs_C scr d 172 [.ref t0, .ref t1, .ref t2, .int x3] h = hs_R scr d 172 0 [some (.ref t0), some (.ref t1), some (.ref t2), some (.int x3), none, none] [] h := by rw [hs_C, mL172]; rfl
theorem b172_0 {t0 t1 t2 : Nat} {x3 : Int32} (o_t0 : ok2 S R t0) (o_t1 : ok5 S R t1) : hs_R scr d 172 0 [some (.ref t0), some (.ref t1), some (.ref t2), some (.int x3), none, none] [] (S, I, L, R) = hs_R scr d 172 5 [some (.ref t0), some (.ref t1), some (.ref t2), some (.int x3), none, none] [] (S, I, L, (hs_u R t0 7 t1)) := Eq.trans (r_al_n d172_0 rfl) (Eq.trans (r_al_n d172_1 rfl) (Eq.trans (r_putR d172_2 f172_34 o_t0.2.1 o_t1.1) (rfl)))
theorem b172_5 {t0 t1 t2 : Nat} {x3 : Int32} (o_t0 : ok2 S R t0) (o_t2 : ok4 S R t2) : hs_R scr d 172 5 [some (.ref t0), some (.ref t1), some (.ref t2), some (.int x3), none, none] [] (S, I, L, R) = hs_R scr d 172 10 [some (.ref t0), some (.ref t1), some (.ref t2), some (.int x3), none, none] [] (S, I, L, (hs_u R t0 8 t2)) := Eq.trans (r_al_n d172_5 rfl) (Eq.trans (r_al_n d172_6 rfl) (Eq.trans (r_putR d172_7 f172_38 o_t0.2.1 o_t2.1) (rfl)))
theorem b172_10 {t0 t1 t2 : Nat} {x3 : Int32} (o_t0 : ok2 S R t0) : hs_R scr d 172 10 [some (.ref t0), some (.ref t1), some (.ref t2), some (.int x3), none, none] [] (S, I, L, R) = hs_R scr d 172 51 [some (.ref t0), some (.ref t1), some (.ref t2), some (.int x3), some (.int 0), some (.int 0)] [] (S, (hs_u (hs_u (hs_u (hs_u (hs_u (hs_u (hs_u I t0 6 x3) t0 0 0) t0 1 0) t0 2 0) t0 3 0) t0 4 0) t0 5 0), L, R) := Eq.trans (r_al_n d172_10 rfl) (Eq.trans (r_il_n d172_11 rfl) (Eq.trans (r_putI d172_12 f172_42 o_t0.2.1) (Eq.trans (r_al_n d172_15 rfl) (Eq.trans (r_ic d172_16 kI_0) (Eq.trans (r_putI d172_17 f172_45 o_t0.2.1) (Eq.trans (r_al_n d172_20 rfl) (Eq.trans (r_ic d172_21 kI_0) (Eq.trans (r_putI d172_22 f172_17 o_t0.2.1) (Eq.trans (r_al_n d172_25 rfl) (Eq.trans (r_ic d172_26 kI_0) (Eq.trans (r_putI d172_27 f172_21 o_t0.2.1) (Eq.trans (r_al_n d172_30 rfl) (Eq.trans (r_ic d172_31 kI_0) (Eq.trans (r_putI d172_32 f172_24 o_t0.2.1) (Eq.trans (r_al_n d172_35 rfl) (Eq.trans (r_ic d172_36 kI_0) (Eq.trans (r_putI d172_37 f172_27 o_t0.2.1) (Eq.trans (r_al_n d172_40 rfl) (Eq.trans (r_ic d172_41 kI_0) (Eq.trans ((r_putZ d172_42 f172_30 o_t0.2.1).trans (if_pos (Or.inl rfl))) (Eq.trans (r_ic d172_45 kI_0) (Eq.trans (r_is (loc' := [some (.ref t0), some (.ref t1), some (.ref t2), some (.int x3), some (.int 0), none]) d172_46 rfl) (Eq.trans (r_ic d172_48 kI_0) (Eq.trans (r_is (loc' := [some (.ref t0), some (.ref t1), some (.ref t2), some (.int x3), some (.int 0), some (.int 0)]) d172_49 rfl) (rfl)))))))))))))))))))))))))
theorem b172_51 {t0 t1 t2 t0_7 : Nat} {x3 x4 x5 : Int32} (o_t0 : ok2 S R t0) (e_t0_7 : R t0 7 = t0_7) (o_t0_7 : ok5 S R t0_7) : hs_R scr (d + 1) 172 51 [some (.ref t0), some (.ref t1), some (.ref t2), some (.int x3), some (.int x4), some (.int x5)] [] (S, I, L, R) = (if (10000 : Int32) ≤ x5 then hs_R scr (d + 1) 172 170 [some (.ref t0), some (.ref t1), some (.ref t2), some (.int x3), some (.int x4), some (.int x5)] [] (S, I, L, R) else (if x4 < 0 then hs_R scr (d + 1) 172 170 [some (.ref t0), some (.ref t1), some (.ref t2), some (.int x3), some (.int x4), some (.int x5)] [] (S, I, L, R) else (if (I t0_7 5) ≤ x4 then hs_R scr (d + 1) 172 170 [some (.ref t0), some (.ref t1), some (.ref t2), some (.int x3), some (.int x4), some (.int x5)] [] (S, I, L, R) else (if (I t0 5) = 0 then (if hs_ib x4 60 = true then (if (I (t0_7 + 1) (Int32.toNatClampNeg x4)) = 28 then ((hs_C scr d 173 [.ref t0, .int x4] (S, I, L, R)).bind fun o => hs_R scr (d + 1) 172 104 [some (.ref t0), some (.ref t1), some (.ref t2), some (.int x3), some (.int x4), some (.int x5)] (o.1.toList ++ []) o.2) else (if (I t0 0) < 300 then ((hs_C scr d 174 [.ref t0, .int x4] (S, (hs_u I t0 0 ((I t0 0) + 1)), L, R)).bind fun o => hs_R scr (d + 1) 172 143 [some (.ref t0), some (.ref t1), some (.ref t2), some (.int x3), some (.int x4), some (.int x5)] (o.1.toList ++ []) o.2) else hs_R scr (d + 1) 172 164 [some (.ref t0), some (.ref t1), some (.ref t2), some (.int x3), some (.int x4), some (.int x5)] [] (S, (hs_u I t0 5 1), L, R))) else none) else hs_R scr (d + 1) 172 170 [some (.ref t0), some (.ref t1), some (.ref t2), some (.int x3), some (.int x4), some (.int x5)] [] (S, I, L, R))))) := Eq.trans (r_il d172_51 rfl) (Eq.trans (r_sp d172_53 kS_10000) (Eq.trans (r_cge d172_56 rfl) (q_ite (rfl) (Eq.trans (r_il d172_59 rfl) (Eq.trans (r_zlt d172_61 rfl) (q_ite (rfl) (Eq.trans (r_il d172_64 rfl) (Eq.trans (r_al_n d172_66 rfl) (Eq.trans (r_getRe d172_67 f172_34 o_t0.2.1 e_t0_7 o_t0_7.1) (Eq.trans (r_getI d172_70 f172_48 o_t0_7.2.1) (Eq.trans (r_cge d172_73 rfl) (q_ite (rfl) (Eq.trans (r_al_n d172_76 rfl) (Eq.trans (r_getZ d172_77 f172_30 o_t0.2.1) (Eq.trans (r_zne d172_80 rfl) (q_ite (Eq.trans (r_al_n d172_83 rfl) (Eq.trans (r_getRe d172_84 f172_34 o_t0.2.1 e_t0_7 o_t0_7.1) (Eq.trans (r_getRe d172_87 f172_51 o_t0_7.2.1 (o_t0_7.2.2.1) (Nat.le_trans o_t0_7.1 (Nat.le_add_right _ _))) (Eq.trans (r_il d172_90 rfl) (Eq.trans (r_iald d172_92 (o_t0_7.2.2.2.1)) (q_ite (Eq.trans (r_bp d172_93 kB_28) (Eq.trans (r_cne d172_95 rfl) (q_ite (Eq.trans (r_al_n d172_98 rfl) (Eq.trans (r_il d172_99 rfl) (r_cvE (as := [.int x4]) (r := []) d172_101 c172_54 ow173 o_t0.2.1 np173.symm rfl (hs_fitE mL173 (Nat.le_of_ble_eq_true rfl))))) (Eq.trans (r_al_n d172_109 rfl) (Eq.trans (r_getI d172_110 f172_45 o_t0.2.1) (Eq.trans (r_sp d172_113 kS_300) (Eq.trans (r_clt d172_116 rfl) (q_ite (Eq.trans (r_al_n d172_127 rfl) (Eq.trans (r_dup d172_128 rfl) (Eq.trans (r_getI d172_129 f172_45 o_t0.2.1) (Eq.trans (r_ic d172_132 kI_1) (Eq.trans (r_iadd d172_133) (Eq.trans (r_putI d172_134 f172_45 o_t0.2.1) (Eq.trans (r_al_n d172_137 rfl) (Eq.trans (r_il d172_138 rfl) (r_cvE (as := [.int x4]) (r := []) d172_140 c172_58 ow174 o_t0.2.1 np174.symm rfl (hs_fitE mL174 (Nat.le_of_ble_eq_true rfl))))))))))) (Eq.trans (r_al_n d172_119 rfl) (Eq.trans (r_ic d172_120 kI_1) (Eq.trans ((r_putZ d172_121 f172_30 o_t0.2.1).trans (if_pos (Or.inr rfl))) (Eq.trans (r_goto d172_124 rfl) (rfl))))))))))))) rfl)))))) (rfl)))))))))))))))))
theorem b172_104 {t0 t1 t2 : Nat} {x3 x4 x5 s0 : Int32}  : hs_R scr d 172 104 [some (.ref t0), some (.ref t1), some (.ref t2), some (.int x3), some (.int x4), some (.int x5)] [.int s0] (S, I, L, R) = hs_R scr d 172 164 [some (.ref t0), some (.ref t1), some (.ref t2), some (.int x3), some (.int s0), some (.int x5)] [] (S, I, L, R) := Eq.trans (r_is (loc' := [some (.ref t0), some (.ref t1), some (.ref t2), some (.int x3), some (.int s0), some (.int x5)]) d172_104 rfl) (Eq.trans (r_goto d172_106 rfl) (rfl))
theorem b172_143 {t0 t1 t2 : Nat} {x3 x4 x5 s0 : Int32} (o_t0 : ok2 S R t0) : hs_R scr d 172 143 [some (.ref t0), some (.ref t1), some (.ref t2), some (.int x3), some (.int x4), some (.int x5)] [.int s0] (S, I, L, R) = (if s0 = 0 then hs_R scr d 172 156 [some (.ref t0), some (.ref t1), some (.ref t2), some (.int x3), some (.int x4), some (.int x5)] [] (S, (hs_u I t0 1 ((I t0 1) + 1)), L, R) else hs_R scr d 172 156 [some (.ref t0), some (.ref t1), some (.ref t2), some (.int x3), some (.int x4), some (.int x5)] [] (S, I, L, R)) := Eq.trans (r_zne d172_143 rfl) (q_ite (Eq.trans (r_al_n d172_146 rfl) (Eq.trans (r_dup d172_147 rfl) (Eq.trans (r_getI d172_148 f172_17 o_t0.2.1) (Eq.trans (r_ic d172_151 kI_1) (Eq.trans (r_iadd d172_152) (Eq.trans (r_putI d172_153 f172_17 o_t0.2.1) (rfl))))))) (rfl))
theorem b172_156 {t0 t1 t2 : Nat} {x3 x4 x5 : Int32} (o_t0 : ok2 S R t0) : hs_R scr (d + 1) 172 156 [some (.ref t0), some (.ref t1), some (.ref t2), some (.int x3), some (.int x4), some (.int x5)] [] (S, I, L, R) = ((hs_C scr d 180 [.ref t0, .int x4] (S, I, L, R)).bind fun o => hs_R scr (d + 1) 172 162 [some (.ref t0), some (.ref t1), some (.ref t2), some (.int x3), some (.int x4), some (.int x5)] (o.1.toList ++ []) o.2) := Eq.trans (r_al_n d172_156 rfl) (Eq.trans (r_il d172_157 rfl) (r_cvE (as := [.int x4]) (r := []) d172_159 c172_62 ow180 o_t0.2.1 np180.symm rfl (hs_fitE mL180 (Nat.le_of_ble_eq_true rfl))))
theorem b172_162 {t0 t1 t2 : Nat} {x3 x4 x5 s0 : Int32}  : hs_R scr d 172 162 [some (.ref t0), some (.ref t1), some (.ref t2), some (.int x3), some (.int x4), some (.int x5)] [.int s0] (S, I, L, R) = hs_R scr d 172 164 [some (.ref t0), some (.ref t1), some (.ref t2), some (.int x3), some (.int s0), some (.int x5)] [] (S, I, L, R) := Eq.trans (r_is (loc' := [some (.ref t0), some (.ref t1), some (.ref t2), some (.int x3), some (.int s0), some (.int x5)]) d172_162 rfl) (rfl)
theorem b172_164 {t0 t1 t2 : Nat} {x3 x4 x5 : Int32}  : hs_R scr d 172 164 [some (.ref t0), some (.ref t1), some (.ref t2), some (.int x3), some (.int x4), some (.int x5)] [] (S, I, L, R) = hs_R scr d 172 51 [some (.ref t0), some (.ref t1), some (.ref t2), some (.int x3), some (.int x4), some (.int (x5 + 1))] [] (S, I, L, R) := Eq.trans (r_inc (loc' := [some (.ref t0), some (.ref t1), some (.ref t2), some (.int x3), some (.int x4), some (.int (x5 + 1))]) d172_164 kI_1 rfl rfl) (Eq.trans (r_goto d172_167 rfl) (rfl))
theorem b172_170 {t0 t1 t2 : Nat} {x3 x4 x5 : Int32}  : hs_R scr d 172 170 [some (.ref t0), some (.ref t1), some (.ref t2), some (.int x3), some (.int x4), some (.int x5)] [] (S, I, L, R) = some (none, (S, I, L, R)) := r_rv d172_170 rt172
theorem e173 {t0 : Nat} {x1 : Int32} : hs_C scr d 173 [.ref t0, .int x1] h = hs_R scr d 173 0 [some (.ref t0), some (.int x1), none] [] h := by rw [hs_C, mL173]; rfl
theorem b173_0 {t0 t0_7 : Nat} {x1 : Int32} (o_t0 : ok2 S R t0) (e_t0_7 : R t0 7 = t0_7) (o_t0_7 : ok5 S R t0_7) : hs_R scr d 173 0 [some (.ref t0), some (.int x1), none] [] (S, I, L, R) = (if hs_ib x1 60 = true then (if hs_ib (I (t0_7 + 5) (Int32.toNatClampNeg x1)) 60 = true then (if (I (t0_7 + 1) (Int32.toNatClampNeg (I (t0_7 + 5) (Int32.toNatClampNeg x1)))) = 27 then (if hs_ib (I (t0_7 + 5) (Int32.toNatClampNeg x1)) 60 = true then (if hs_ib (I (t0_7 + 5) (Int32.toNatClampNeg x1)) 60 = true then (if hs_ib (I (t0_7 + 5) (Int32.toNatClampNeg x1)) 60 = true then (if ((hs_u I (t0 + 1) (Int32.toNatClampNeg (I (t0_7 + 5) (Int32.toNatClampNeg x1))) ((I (t0 + 1) (Int32.toNatClampNeg (I (t0_7 + 5) (Int32.toNatClampNeg x1)))) - 1)) (t0 + 1) (Int32.toNatClampNeg (I (t0_7 + 5) (Int32.toNatClampNeg x1)))) ≤ 0 then hs_R scr d 173 47 [some (.ref t0), some (.int x1), some (.int (I (t0_7 + 5) (Int32.toNatClampNeg x1)))] [] (S, (hs_u I (t0 + 1) (Int32.toNatClampNeg (I (t0_7 + 5) (Int32.toNatClampNeg x1))) ((I (t0 + 1) (Int32.toNatClampNeg (I (t0_7 + 5) (Int32.toNatClampNeg x1)))) - 1)), L, R) else some (some (.int ((I (t0_7 + 5) (Int32.toNatClampNeg x1)) + 1)), (S, (hs_u I (t0 + 1) (Int32.toNatClampNeg (I (t0_7 + 5) (Int32.toNatClampNeg x1))) ((I (t0 + 1) (Int32.toNatClampNeg (I (t0_7 + 5) (Int32.toNatClampNeg x1)))) - 1)), L, R))) else none) else none) else none) else hs_R scr d 173 47 [some (.ref t0), some (.int x1), some (.int (I (t0_7 + 5) (Int32.toNatClampNeg x1)))] [] (S, I, L, R)) else none) else none) := Eq.trans (r_al_n d173_0 rfl) (Eq.trans (r_getRe d173_1 f173_34 o_t0.2.1 e_t0_7 o_t0_7.1) (Eq.trans (r_getRe d173_4 f173_65 o_t0_7.2.1 (o_t0_7.2.2.2.2.2.2.2.2.2.2.1) (Nat.le_trans o_t0_7.1 (Nat.le_add_right _ _))) (Eq.trans (r_il_n d173_7 rfl) (Eq.trans (r_iald d173_8 (o_t0_7.2.2.2.2.2.2.2.2.2.2.2)) (q_ite (Eq.trans (r_is_n (loc' := [some (.ref t0), some (.int x1), some (.int (I (t0_7 + 5) (Int32.toNatClampNeg x1)))]) d173_9 rfl) (Eq.trans (r_al_n d173_10 rfl) (Eq.trans (r_getRe d173_11 f173_34 o_t0.2.1 e_t0_7 o_t0_7.1) (Eq.trans (r_getRe d173_14 f173_51 o_t0_7.2.1 (o_t0_7.2.2.1) (Nat.le_trans o_t0_7.1 (Nat.le_add_right _ _))) (Eq.trans (r_il_n d173_17 rfl) (Eq.trans (r_iald d173_18 (o_t0_7.2.2.2.1)) (q_ite (Eq.trans (r_bp d173_19 kB_27) (Eq.trans (r_cne d173_21 rfl) (q_ite (Eq.trans (r_al_n d173_24 rfl) (Eq.trans (r_getRe d173_25 f173_11 o_t0.2.1 (o_t0.2.2.1) (Nat.le_trans o_t0.1 (Nat.le_add_right _ _))) (Eq.trans (r_il_n d173_28 rfl) (Eq.trans (r_dup2 d173_29 ⟨rfl, rfl⟩) (Eq.trans (r_iald d173_30 (o_t0.2.2.2)) (q_ite (Eq.trans (r_ic d173_31 kI_1) (Eq.trans (r_isub d173_32) (Eq.trans (r_iast d173_33 (o_t0.2.2.2)) (q_ite (Eq.trans (r_al_n d173_34 rfl) (Eq.trans (r_getRe d173_35 f173_11 o_t0.2.1 (o_t0.2.2.1) (Nat.le_trans o_t0.1 (Nat.le_add_right _ _))) (Eq.trans (r_il_n d173_38 rfl) (Eq.trans (r_iald d173_39 (o_t0.2.2.2)) (q_ite (Eq.trans (r_zle d173_40 rfl) (q_ite (rfl) (Eq.trans (r_il_n d173_43 rfl) (Eq.trans (r_ic d173_44 kI_1) (Eq.trans (r_iadd d173_45) (r_ri d173_46 rt173)))))) rfl))))) rfl)))) rfl)))))) (rfl)))) rfl))))))) rfl)))))
theorem b173_47 {t0 : Nat} {x1 x2 : Int32}  : hs_R scr d 173 47 [some (.ref t0), some (.int x1), some (.int x2)] [] (S, I, L, R) = some (some (.int (x1 + 1)), (S, I, L, R)) := Eq.trans (r_il_n d173_47 rfl) (Eq.trans (r_ic d173_48 kI_1) (Eq.trans (r_iadd d173_49) (r_ri d173_50 rt173)))
theorem e174 {t0 : Nat} {x1 : Int32} : hs_C scr d 174 [.ref t0, .int x1] h = hs_R scr d 174 0 [some (.ref t0), some (.int x1), none, none] [] h := by rw [hs_C, mL174]; rfl
theorem b174_0 {t0 t0_7 : Nat} {x1 : Int32} (o_t0 : ok2 S R t0) (e_t0_7 : R t0 7 = t0_7) (o_t0_7 : ok5 S R t0_7) : hs_R scr d 174 0 [some (.ref t0), some (.int x1), none, none] [] (S, I, L, R) = (if hs_ib x1 60 = true then (if hs_ib x1 60 = true then (if hs_ib x1 60 = true then hs_R scr d 174 (hs_swt (I (t0_7 + 1) (Int32.toNatClampNeg x1)) 17 24 [76, 82, 91, 100, 115, 122, 129, 137] 142) [some (.ref t0), some (.int x1), some (.int (I (t0_7 + 3) (Int32.toNatClampNeg x1))), some (.int (I (t0_7 + 4) (Int32.toNatClampNeg x1)))] [] (S, I, L, R) else none) else none) else none) := Eq.trans (r_al_n d174_0 rfl) (Eq.trans (r_getRe d174_1 f174_34 o_t0.2.1 e_t0_7 o_t0_7.1) (Eq.trans (r_getRe d174_4 f174_74 o_t0_7.2.1 (o_t0_7.2.2.2.2.2.2.1) (Nat.le_trans o_t0_7.1 (Nat.le_add_right _ _))) (Eq.trans (r_il_n d174_7 rfl) (Eq.trans (r_iald d174_8 (o_t0_7.2.2.2.2.2.2.2.1)) (q_ite (Eq.trans (r_is_n (loc' := [some (.ref t0), some (.int x1), some (.int (I (t0_7 + 3) (Int32.toNatClampNeg x1))), none]) d174_9 rfl) (Eq.trans (r_al_n d174_10 rfl) (Eq.trans (r_getRe d174_11 f174_34 o_t0.2.1 e_t0_7 o_t0_7.1) (Eq.trans (r_getRe d174_14 f174_71 o_t0_7.2.1 (o_t0_7.2.2.2.2.2.2.2.2.1) (Nat.le_trans o_t0_7.1 (Nat.le_add_right _ _))) (Eq.trans (r_il_n d174_17 rfl) (Eq.trans (r_iald d174_18 (o_t0_7.2.2.2.2.2.2.2.2.2.1)) (q_ite (Eq.trans (r_is_n (loc' := [some (.ref t0), some (.int x1), some (.int (I (t0_7 + 3) (Int32.toNatClampNeg x1))), some (.int (I (t0_7 + 4) (Int32.toNatClampNeg x1)))]) d174_19 rfl) (Eq.trans (r_al_n d174_20 rfl) (Eq.trans (r_getRe d174_21 f174_34 o_t0.2.1 e_t0_7 o_t0_7.1) (Eq.trans (r_getRe d174_24 f174_51 o_t0_7.2.1 (o_t0_7.2.2.1) (Nat.le_trans o_t0_7.1 (Nat.le_add_right _ _))) (Eq.trans (r_il_n d174_27 rfl) (Eq.trans (r_iald d174_28 (o_t0_7.2.2.2.1)) (q_ite (r_tsw d174_29 rfl rfl rfl) rfl))))))) rfl))))))) rfl)))))
theorem b174_76 {t0 : Nat} {x1 x2 x3 : Int32} (o_t0 : ok2 S R t0) : hs_R scr (d + 1) 174 76 [some (.ref t0), some (.int x1), some (.int x2), some (.int x3)] [] (S, I, L, R) = ((hs_C scr d 175 [.ref t0, .int x3] (S, I, L, R)).bind fun o => hs_R scr (d + 1) 174 81 [some (.ref t0), some (.int x1), some (.int x2), some (.int x3)] (o.1.toList ++ []) o.2) := Eq.trans (r_al_n d174_76 rfl) (Eq.trans (r_il_n d174_77 rfl) (r_cvE (as := [.int x3]) (r := []) d174_78 c174_98 ow175 o_t0.2.1 np175.symm rfl (hs_fitE mL175 (Nat.le_of_ble_eq_true rfl))))
theorem b174_81 {t0 : Nat} {x1 x2 x3 s0 : Int32}  : hs_R scr d 174 81 [some (.ref t0), some (.int x1), some (.int x2), some (.int x3)] [.int s0] (S, I, L, R) = (if s0 = 0 ∨ s0 = 1 then some (some (.int s0), (S, I, L, R)) else none) := r_rz d174_81 rt174
theorem b174_82 {t0 t0_8 : Nat} {x1 x2 x3 : Int32} (o_t0 : ok2 S R t0) (e_t0_8 : R t0 8 = t0_8) (o_t0_8 : ok4 S R t0_8) : hs_R scr (d + 1) 174 82 [some (.ref t0), some (.int x1), some (.int x2), some (.int x3)] [] (S, I, L, R) = ((hs_C scr d 105 [.ref t0_8, .int 1] (S, I, L, R)).bind fun o => hs_R scr (d + 1) 174 90 [some (.ref t0), some (.int x1), some (.int x2), some (.int x3)] (o.1.toList ++ []) o.2) := Eq.trans (r_al_n d174_82 rfl) (Eq.trans (r_getRe d174_83 f174_38 o_t0.2.1 e_t0_8 o_t0_8.1) (Eq.trans (r_ic d174_86 kI_1) (r_cvE (as := [.int 1]) (r := []) d174_87 c174_101 ow105 o_t0_8.2.1 np105.symm rfl (hs_fitE mL105 (Nat.le_of_ble_eq_true rfl)))))
theorem b174_90 {t0 : Nat} {x1 x2 x3 s0 : Int32}  : hs_R scr d 174 90 [some (.ref t0), some (.int x1), some (.int x2), some (.int x3)] [.int s0] (S, I, L, R) = (if s0 = 0 ∨ s0 = 1 then some (some (.int s0), (S, I, L, R)) else none) := r_rz d174_90 rt174
theorem b174_91 {t0 t0_8 : Nat} {x1 x2 x3 : Int32} (o_t0 : ok2 S R t0) (e_t0_8 : R t0 8 = t0_8) (o_t0_8 : ok4 S R t0_8) : hs_R scr (d + 1) 174 91 [some (.ref t0), some (.int x1), some (.int x2), some (.int x3)] [] (S, I, L, R) = ((hs_C scr d 105 [.ref t0_8, .int 0] (S, I, L, R)).bind fun o => hs_R scr (d + 1) 174 99 [some (.ref t0), some (.int x1), some (.int x2), some (.int x3)] (o.1.toList ++ []) o.2) := Eq.trans (r_al_n d174_91 rfl) (Eq.trans (r_getRe d174_92 f174_38 o_t0.2.1 e_t0_8 o_t0_8.1) (Eq.trans (r_ic d174_95 kI_0) (r_cvE (as := [.int 0]) (r := []) d174_96 c174_101 ow105 o_t0_8.2.1 np105.symm rfl (hs_fitE mL105 (Nat.le_of_ble_eq_true rfl)))))
theorem b174_99 {t0 : Nat} {x1 x2 x3 s0 : Int32}  : hs_R scr d 174 99 [some (.ref t0), some (.int x1), some (.int x2), some (.int x3)] [.int s0] (S, I, L, R) = (if s0 = 0 ∨ s0 = 1 then some (some (.int s0), (S, I, L, R)) else none) := r_rz d174_99 rt174
theorem b174_100 {t0 t0_8 : Nat} {x1 x2 x3 : Int32} (o_t0 : ok2 S R t0) (e_t0_8 : R t0 8 = t0_8) (o_t0_8 : ok4 S R t0_8) : hs_R scr d 174 100 [some (.ref t0), some (.int x1), some (.int x2), some (.int x3)] [] (S, I, L, R) = (if hs_ib x2 8 = true then some (some (.int 1), (S, (hs_u I (t0_8 + 9) (Int32.toNatClampNeg x2) x3), L, R)) else none) := Eq.trans (r_al_n d174_100 rfl) (Eq.trans (r_getRe d174_101 f174_38 o_t0.2.1 e_t0_8 o_t0_8.1) (Eq.trans (r_getRe d174_104 f174_86 o_t0_8.2.1 (o_t0_8.2.2.2.2.1) (Nat.le_trans o_t0_8.1 (Nat.le_add_right _ _))) (Eq.trans (r_getRe d174_107 f174_105 (o_t0_8.2.2.2.2.2.1).2.1 ((o_t0_8.2.2.2.2.2.1).2.2.2.2.2.2.2.2.1) (Nat.le_trans (o_t0_8.2.2.2.2.2.1).1 (Nat.le_add_right _ _))) (Eq.trans (r_il_n d174_110 rfl) (Eq.trans (r_il_n d174_111 rfl) (Eq.trans (r_iast d174_112 ((o_t0_8.2.2.2.2.2.1).2.2.2.2.2.2.2.2.2)) (q_ite (Eq.trans (r_ic d174_113 kI_1) ((r_rz d174_114 rt174).trans (if_pos (Or.inr rfl)))) rfl)))))))
theorem b174_115 {t0 : Nat} {x1 x2 x3 : Int32} (o_t0 : ok2 S R t0) : hs_R scr (d + 1) 174 115 [some (.ref t0), some (.int x1), some (.int x2), some (.int x3)] [] (S, I, L, R) = ((hs_C scr d 176 [.ref t0, .int x2, .int x3] (S, I, L, R)).bind fun o => hs_R scr (d + 1) 174 121 [some (.ref t0), some (.int x1), some (.int x2), some (.int x3)] (o.1.toList ++ []) o.2) := Eq.trans (r_al_n d174_115 rfl) (Eq.trans (r_il_n d174_116 rfl) (Eq.trans (r_il_n d174_117 rfl) (r_cvE (as := [.int x2, .int x3]) (r := []) d174_118 c174_108 ow176 o_t0.2.1 np176.symm rfl (hs_fitE mL176 (Nat.le_of_ble_eq_true rfl)))))
theorem b174_121 {t0 : Nat} {x1 x2 x3 s0 : Int32}  : hs_R scr d 174 121 [some (.ref t0), some (.int x1), some (.int x2), some (.int x3)] [.int s0] (S, I, L, R) = (if s0 = 0 ∨ s0 = 1 then some (some (.int s0), (S, I, L, R)) else none) := r_rz d174_121 rt174
theorem b174_122 {t0 : Nat} {x1 x2 x3 : Int32} (o_t0 : ok2 S R t0) : hs_R scr (d + 1) 174 122 [some (.ref t0), some (.int x1), some (.int x2), some (.int x3)] [] (S, I, L, R) = ((hs_C scr d 177 [.ref t0, .int x2, .int x3] (S, I, L, R)).bind fun o => hs_R scr (d + 1) 174 128 [some (.ref t0), some (.int x1), some (.int x2), some (.int x3)] (o.1.toList ++ []) o.2) := Eq.trans (r_al_n d174_122 rfl) (Eq.trans (r_il_n d174_123 rfl) (Eq.trans (r_il_n d174_124 rfl) (r_cvE (as := [.int x2, .int x3]) (r := []) d174_125 c174_111 ow177 o_t0.2.1 np177.symm rfl (hs_fitE mL177 (Nat.le_of_ble_eq_true rfl)))))
theorem b174_128 {t0 : Nat} {x1 x2 x3 s0 : Int32}  : hs_R scr d 174 128 [some (.ref t0), some (.int x1), some (.int x2), some (.int x3)] [.int s0] (S, I, L, R) = (if s0 = 0 ∨ s0 = 1 then some (some (.int s0), (S, I, L, R)) else none) := r_rz d174_128 rt174
theorem b174_129 {t0 t0_8 : Nat} {x1 x2 x3 : Int32} (o_t0 : ok2 S R t0) (e_t0_8 : R t0 8 = t0_8) (o_t0_8 : ok4 S R t0_8) : hs_R scr (d + 1) 174 129 [some (.ref t0), some (.int x1), some (.int x2), some (.int x3)] [] (S, I, L, R) = ((hs_C scr d 114 [.ref t0_8] (S, I, L, R)).bind fun o => hs_R scr (d + 1) 174 136 [some (.ref t0), some (.int x1), some (.int x2), some (.int x3)] (o.1.toList ++ []) o.2) := Eq.trans (r_al_n d174_129 rfl) (Eq.trans (r_getRe d174_130 f174_38 o_t0.2.1 e_t0_8 o_t0_8.1) (r_cvE (as := []) (r := []) d174_133 c174_114 ow114 o_t0_8.2.1 np114.symm rfl (hs_fitE mL114 (Nat.le_of_ble_eq_true rfl))))
theorem b174_136 {t0 : Nat} {x1 x2 x3 s0 : Int32}  : hs_R scr d 174 136 [some (.ref t0), some (.int x1), some (.int x2), some (.int x3)] [.int s0] (S, I, L, R) = (if s0 = 0 ∨ s0 = 1 then some (some (.int s0), (S, I, L, R)) else none) := r_rz d174_136 rt174
theorem b174_137 {t0 : Nat} {x1 x2 x3 : Int32} (o_t0 : ok2 S R t0) : hs_R scr (d + 1) 174 137 [some (.ref t0), some (.int x1), some (.int x2), some (.int x3)] [] (S, I, L, R) = ((hs_C scr d 178 [.ref t0] (S, I, L, R)).bind fun o => hs_R scr (d + 1) 174 141 [some (.ref t0), some (.int x1), some (.int x2), some (.int x3)] (o.1.toList ++ []) o.2) := Eq.trans (r_al_n d174_137 rfl) (r_cvE (as := []) (r := []) d174_138 c174_118 ow178 o_t0.2.1 np178.symm rfl (hs_fitE mL178 (Nat.le_of_ble_eq_true rfl)))
theorem b174_141 {t0 : Nat} {x1 x2 x3 s0 : Int32}  : hs_R scr d 174 141 [some (.ref t0), some (.int x1), some (.int x2), some (.int x3)] [.int s0] (S, I, L, R) = (if s0 = 0 ∨ s0 = 1 then some (some (.int s0), (S, I, L, R)) else none) := r_rz d174_141 rt174
theorem b174_142 {t0 : Nat} {x1 x2 x3 : Int32}  : hs_R scr d 174 142 [some (.ref t0), some (.int x1), some (.int x2), some (.int x3)] [] (S, I, L, R) = some (some (.int 1), (S, I, L, R)) := Eq.trans (r_ic d174_142 kI_1) ((r_rz d174_143 rt174).trans (if_pos (Or.inr rfl)))
theorem e175 {t0 : Nat} {x1 : Int32} : hs_C scr d 175 [.ref t0, .int x1] h = hs_R scr d 175 0 [some (.ref t0), some (.int x1)] [] h := by rw [hs_C, mL175]; rfl
theorem b175_0 {t0 t0_8 : Nat} {x1 : Int32} (o_t0 : ok2 S R t0) (e_t0_8 : R t0 8 = t0_8) (o_t0_8 : ok4 S R t0_8) : hs_R scr (d + 1) 175 0 [some (.ref t0), some (.int x1)] [] (S, I, L, R) = ((hs_C scr d 100 [.ref t0_8, .int x1] (S, I, L, R)).bind fun o => hs_R scr (d + 1) 175 8 [some (.ref t0), some (.int x1)] (o.1.toList ++ []) o.2) := Eq.trans (r_al_n d175_0 rfl) (Eq.trans (r_getRe d175_1 f175_38 o_t0.2.1 e_t0_8 o_t0_8.1) (Eq.trans (r_il_n d175_4 rfl) (r_cvE (as := [.int x1]) (r := []) d175_5 c175_121 ow100 o_t0_8.2.1 np100.symm rfl (hs_fitE mL100 (Nat.le_of_ble_eq_true rfl)))))
theorem b175_8 {t0 : Nat} {x1 s0 : Int32} (o_t0 : ok2 S R t0) : hs_R scr d 175 8 [some (.ref t0), some (.int x1)] [.int s0] (S, I, L, R) = (if s0 = 0 then some (some (.int 0), (S, I, L, R)) else some (some (.int 1), (S, (hs_u I t0 2 ((I t0 2) + x1)), L, R))) := Eq.trans (r_zne d175_8 rfl) (q_ite (Eq.trans (r_ic d175_11 kI_0) ((r_rz d175_12 rt175).trans (if_pos (Or.inl rfl)))) (Eq.trans (r_al_n d175_13 rfl) (Eq.trans (r_dup d175_14 rfl) (Eq.trans (r_getI d175_15 f175_21 o_t0.2.1) (Eq.trans (r_il_n d175_18 rfl) (Eq.trans (r_iadd d175_19) (Eq.trans (r_putI d175_20 f175_21 o_t0.2.1) (Eq.trans (r_ic d175_23 kI_1) ((r_rz d175_24 rt175).trans (if_pos (Or.inr rfl)))))))))))
theorem e176 {t0 : Nat} {x1 : Int32} {x2 : Int32} : hs_C scr d 176 [.ref t0, .int x1, .int x2] h = hs_R scr d 176 0 [some (.ref t0), some (.int x1), some (.int x2)] [] h := by rw [hs_C, mL176]; rfl
theorem b176_0 {t0 t0_8 : Nat} {x1 x2 : Int32} (o_t0 : ok2 S R t0) (e_t0_8 : R t0 8 = t0_8) (o_t0_8 : ok4 S R t0_8) : hs_R scr (d + 1) 176 0 [some (.ref t0), some (.int x1), some (.int x2)] [] (S, I, L, R) = (if hs_ib x1 8 = true then (if x2 < (I (t0_8 + 6) (Int32.toNatClampNeg x1)) then ((hs_C scr d 110 [.ref (t0_8 + 5), .int x1, .int x2] (S, I, L, R)).bind fun o => hs_R scr (d + 1) 176 35 [some (.ref t0), some (.int x1), some (.int x2)] (o.1.toList ++ [.int (I t0 3), .ref t0]) o.2) else some (some (.int 0), (S, I, L, R))) else none) := Eq.trans (r_al_n d176_0 rfl) (Eq.trans (r_getRe d176_1 f176_38 o_t0.2.1 e_t0_8 o_t0_8.1) (Eq.trans (r_getRe d176_4 f176_86 o_t0_8.2.1 (o_t0_8.2.2.2.2.1) (Nat.le_trans o_t0_8.1 (Nat.le_add_right _ _))) (Eq.trans (r_getRe d176_7 f176_90 (o_t0_8.2.2.2.2.2.1).2.1 ((o_t0_8.2.2.2.2.2.1).2.2.1) (Nat.le_trans (o_t0_8.2.2.2.2.2.1).1 (Nat.le_add_right _ _))) (Eq.trans (r_il_n d176_10 rfl) (Eq.trans (r_iald d176_11 ((o_t0_8.2.2.2.2.2.1).2.2.2.1)) (q_ite (Eq.trans (r_il_n d176_12 rfl) (Eq.trans (r_cgt d176_13 rfl) (q_ite (Eq.trans (r_al_n d176_18 rfl) (Eq.trans (r_dup d176_19 rfl) (Eq.trans (r_getI d176_20 f176_24 o_t0.2.1) (Eq.trans (r_al_n d176_23 rfl) (Eq.trans (r_getRe d176_24 f176_38 o_t0.2.1 e_t0_8 o_t0_8.1) (Eq.trans (r_getRe d176_27 f176_86 o_t0_8.2.1 (o_t0_8.2.2.2.2.1) (Nat.le_trans o_t0_8.1 (Nat.le_add_right _ _))) (Eq.trans (r_il_n d176_30 rfl) (Eq.trans (r_il_n d176_31 rfl) (r_cvE (as := [.int x1, .int x2]) (r := [.int (I t0 3), .ref t0]) d176_32 c176_124 ow110 (o_t0_8.2.2.2.2.2.1).2.1 np110.symm rfl (hs_fitE mL110 (Nat.le_of_ble_eq_true rfl))))))))))) (Eq.trans (r_ic d176_16 kI_0) ((r_rz d176_17 rt176).trans (if_pos (Or.inl rfl))))))) rfl))))))
theorem b176_35 {t0 u0 : Nat} {x1 x2 s1 s2 : Int32} (o_u0 : ok2 S R u0) : hs_R scr d 176 35 [some (.ref t0), some (.int x1), some (.int x2)] [.int s2, .int s1, .ref u0] (S, I, L, R) = some (some (.int 1), (S, (hs_u I u0 3 (s1 + s2)), L, R)) := Eq.trans (r_iadd d176_35) (Eq.trans (r_putI d176_36 f176_24 o_u0.2.1) (Eq.trans (r_ic d176_39 kI_1) ((r_rz d176_40 rt176).trans (if_pos (Or.inr rfl)))))
theorem e177 {t0 : Nat} {x1 : Int32} {x2 : Int32} : hs_C scr d 177 [.ref t0, .int x1, .int x2] h = hs_R scr d 177 0 [some (.ref t0), some (.int x1), some (.int x2)] [] h := by rw [hs_C, mL177]; rfl
theorem b177_0 {t0 t0_8 : Nat} {x1 x2 : Int32} (o_t0 : ok2 S R t0) (e_t0_8 : R t0 8 = t0_8) (o_t0_8 : ok4 S R t0_8) : hs_R scr (d + 1) 177 0 [some (.ref t0), some (.int x1), some (.int x2)] [] (S, I, L, R) = ((hs_C scr d 112 [.ref t0_8, .int x1, .int x2] (S, I, L, R)).bind fun o => hs_R scr (d + 1) 177 9 [some (.ref t0), some (.int x1), some (.int x2)] (o.1.toList ++ []) o.2) := Eq.trans (r_al_n d177_0 rfl) (Eq.trans (r_getRe d177_1 f177_38 o_t0.2.1 e_t0_8 o_t0_8.1) (Eq.trans (r_il_n d177_4 rfl) (Eq.trans (r_il_n d177_5 rfl) (r_cvE (as := [.int x1, .int x2]) (r := []) d177_6 c177_128 ow112 o_t0_8.2.1 np112.symm rfl (hs_fitE mL112 (Nat.le_of_ble_eq_true rfl))))))
theorem b177_9 {t0 : Nat} {x1 x2 s0 : Int32} (o_t0 : ok2 S R t0) : hs_R scr (d + 1) 177 9 [some (.ref t0), some (.int x1), some (.int x2)] [.int s0] (S, I, L, R) = (if s0 ≤ 0 then hs_R scr (d + 1) 177 21 [some (.ref t0), some (.int x1), some (.int x2)] [] (S, I, L, R) else ((hs_C scr d 176 [.ref t0, .int x1, .int x2] (S, I, L, R)).bind fun o => hs_R scr (d + 1) 177 18 [some (.ref t0), some (.int x1), some (.int x2)] (o.1.toList ++ []) o.2)) := Eq.trans (r_zle d177_9 rfl) (q_ite (rfl) (Eq.trans (r_al_n d177_12 rfl) (Eq.trans (r_il_n d177_13 rfl) (Eq.trans (r_il_n d177_14 rfl) (r_cvE (as := [.int x1, .int x2]) (r := []) d177_15 c177_108 ow176 o_t0.2.1 np176.symm rfl (hs_fitE mL176 (Nat.le_of_ble_eq_true rfl)))))))
theorem b177_18 {t0 : Nat} {x1 x2 s0 : Int32} (o_t0 : ok2 S R t0) : hs_R scr d 177 18 [some (.ref t0), some (.int x1), some (.int x2)] [.int s0] (S, I, L, R) = (if s0 = 0 then hs_R scr d 177 21 [some (.ref t0), some (.int x1), some (.int x2)] [] (S, I, L, R) else some (some (.int 1), (S, (hs_u I t0 4 ((I t0 4) + 1)), L, R))) := Eq.trans (r_zne d177_18 rfl) (q_ite (rfl) (Eq.trans (r_al_n d177_23 rfl) (Eq.trans (r_dup d177_24 rfl) (Eq.trans (r_getI d177_25 f177_27 o_t0.2.1) (Eq.trans (r_ic d177_28 kI_1) (Eq.trans (r_iadd d177_29) (Eq.trans (r_putI d177_30 f177_27 o_t0.2.1) (Eq.trans (r_ic d177_33 kI_1) ((r_rz d177_34 rt177).trans (if_pos (Or.inr rfl)))))))))))
theorem b177_21 {t0 : Nat} {x1 x2 : Int32}  : hs_R scr d 177 21 [some (.ref t0), some (.int x1), some (.int x2)] [] (S, I, L, R) = some (some (.int 0), (S, I, L, R)) := Eq.trans (r_ic d177_21 kI_0) ((r_rz d177_22 rt177).trans (if_pos (Or.inl rfl)))
theorem e178 {t0 : Nat} : hs_C scr d 178 [.ref t0] h = hs_R scr d 178 0 [some (.ref t0), none, none] [] h := by rw [hs_C, mL178]; rfl
theorem b178_0 {t0 t0_8 : Nat} (o_t0 : ok2 S R t0) (e_t0_8 : R t0 8 = t0_8) (o_t0_8 : ok4 S R t0_8) : hs_R scr (d + 1) 178 0 [some (.ref t0), none, none] [] (S, I, L, R) = (if (0 : Int32) < (I (t0_8 + 5) 4) then ((hs_C scr d 179 [.ref t0, .int (I (t0_8 + 5) 4)] (S, I, L, R)).bind fun o => hs_R scr (d + 1) 178 22 [some (.ref t0), some (.int (I (t0_8 + 5) 4)), none] (o.1.toList ++ []) o.2) else some (some (.int 0), (S, I, L, R))) := Eq.trans (r_al_n d178_0 rfl) (Eq.trans (r_getRe d178_1 f178_38 o_t0.2.1 e_t0_8 o_t0_8.1) (Eq.trans (r_getRe d178_4 f178_86 o_t0_8.2.1 (o_t0_8.2.2.2.2.1) (Nat.le_trans o_t0_8.1 (Nat.le_add_right _ _))) (Eq.trans (r_getI d178_7 f178_131 (o_t0_8.2.2.2.2.2.1).2.1) (Eq.trans (r_is_n (loc' := [some (.ref t0), some (.int (I (t0_8 + 5) 4)), none]) d178_10 rfl) (Eq.trans (r_il_n d178_11 rfl) (Eq.trans (r_zgt d178_12 rfl) (q_ite (Eq.trans (r_al_n d178_17 rfl) (Eq.trans (r_il_n d178_18 rfl) (r_cvE (as := [.int (I (t0_8 + 5) 4)]) (r := []) d178_19 c178_134 ow179 o_t0.2.1 np179.symm rfl (hs_fitE mL179 (Nat.le_of_ble_eq_true rfl))))) (Eq.trans (r_ic d178_15 kI_0) ((r_rz d178_16 rt178).trans (if_pos (Or.inl rfl)))))))))))
theorem b178_22 {t0 t0_8 : Nat} {x1 s0 : Int32} (o_t0 : ok2 S R t0) (e_t0_8 : R t0 8 = t0_8) (o_t0_8 : ok4 S R t0_8) : hs_R scr (d + 1) 178 22 [some (.ref t0), some (.int x1), none] [.int s0] (S, I, L, R) = ((hs_C scr d 179 [.ref t0, .int 3] (S, I, L, R)).bind fun o => hs_R scr (d + 1) 178 39 [some (.ref t0), some (.int x1), some (.int s0)] (o.1.toList ++ [.int s0, .ref (t0_8 + 8)]) o.2) := Eq.trans (r_is_n (loc' := [some (.ref t0), some (.int x1), some (.int s0)]) d178_22 rfl) (Eq.trans (r_al_n d178_23 rfl) (Eq.trans (r_getRe d178_24 f178_38 o_t0.2.1 e_t0_8 o_t0_8.1) (Eq.trans (r_getRe d178_27 f178_86 o_t0_8.2.1 (o_t0_8.2.2.2.2.1) (Nat.le_trans o_t0_8.1 (Nat.le_add_right _ _))) (Eq.trans (r_getRe d178_30 f178_137 (o_t0_8.2.2.2.2.2.1).2.1 ((o_t0_8.2.2.2.2.2.1).2.2.2.2.2.2.1) (Nat.le_trans (o_t0_8.2.2.2.2.2.1).1 (Nat.le_add_right _ _))) (Eq.trans (r_il_n d178_33 rfl) (Eq.trans (r_al_n d178_34 rfl) (Eq.trans (r_ic d178_35 kI_3) (r_cvE (as := [.int 3]) (r := [.int s0, .ref (t0_8 + 8)]) d178_36 c178_134 ow179 o_t0.2.1 np179.symm rfl (hs_fitE mL179 (Nat.le_of_ble_eq_true rfl))))))))))
theorem b178_39 {t0 u0 n_u0 : Nat} {x1 x2 s1 s2 : Int32} (a_u0 : S[u0]? = some (.inr (.int, n_u0))) : hs_R scr d 178 39 [some (.ref t0), some (.int x1), some (.int x2)] [.int s2, .int s1, .ref u0] (S, I, L, R) = (if hs_ib s1 n_u0 = true then some (some (.int 1), (S, (hs_u I u0 (Int32.toNatClampNeg s1) s2), L, R)) else none) := Eq.trans (r_iast d178_39 a_u0) (q_ite (Eq.trans (r_ic d178_40 kI_1) ((r_rz d178_41 rt178).trans (if_pos (Or.inr rfl)))) rfl)
theorem e179 {t0 : Nat} {x1 : Int32} : hs_C scr d 179 [.ref t0, .int x1] h = hs_R scr d 179 0 [some (.ref t0), some (.int x1)] [] h := by rw [hs_C, mL179]; rfl
theorem b179_0 {t0 : Nat} {x1 : Int32} (o_t0 : ok2 S R t0) : hs_R scr d 179 0 [some (.ref t0), some (.int x1)] [] (S, I, L, R) = (if x1 ≤ 0 then hs_R scr d 179 36 [some (.ref t0), some (.int x1)] [.int 0] (S, (hs_u I t0 6 ((((I t0 6) * 2971) + 10837) - (((I t0 6) * 2971) + 10837) / 65536 * 65536)), L, R) else (if x1 = 0 then none else hs_R scr d 179 36 [some (.ref t0), some (.int x1)] [.int ((((hs_u I t0 6 ((((I t0 6) * 2971) + 10837) - (((I t0 6) * 2971) + 10837) / 65536 * 65536)) t0 6) / 8) - (((hs_u I t0 6 ((((I t0 6) * 2971) + 10837) - (((I t0 6) * 2971) + 10837) / 65536 * 65536)) t0 6) / 8) / x1 * x1)] (S, (hs_u I t0 6 ((((I t0 6) * 2971) + 10837) - (((I t0 6) * 2971) + 10837) / 65536 * 65536)), L, R))) := Eq.trans (r_al_n d179_0 rfl) (Eq.trans (r_al_n d179_1 rfl) (Eq.trans (r_getI d179_2 f179_42 o_t0.2.1) (Eq.trans (r_sp d179_5 kS_2971) (Eq.trans (r_imul d179_8) (Eq.trans (r_sp d179_9 kS_10837) (Eq.trans (r_iadd d179_12) (Eq.trans (r_ldc d179_13 c8_179_140 ci179_140) (Eq.trans ((r_irem d179_15).trans (if_neg nzI_65536)) (Eq.trans (r_putI d179_16 f179_42 o_t0.2.1) (Eq.trans (r_il_n d179_19 rfl) (Eq.trans (r_zle d179_20 rfl) (q_ite (Eq.trans (r_ic d179_35 kI_0) (rfl)) (Eq.trans (r_al_n d179_23 rfl) (Eq.trans (r_getI d179_24 f179_42 o_t0.2.1) (Eq.trans (r_bp d179_27 kB_8) (Eq.trans ((r_idiv d179_29).trans (if_neg nzI_8)) (Eq.trans (r_il_n d179_30 rfl) (Eq.trans (r_irem d179_31) (q_ite rfl (Eq.trans (r_goto d179_32 rfl) (rfl)))))))))))))))))))))
theorem b179_36 {t0 : Nat} {x1 s0 : Int32}  : hs_R scr d 179 36 [some (.ref t0), some (.int x1)] [.int s0] (S, I, L, R) = some (some (.int s0), (S, I, L, R)) := r_ri d179_36 rt179
theorem e180 {t0 : Nat} {x1 : Int32} : hs_C scr d 180 [.ref t0, .int x1] h = hs_R scr d 180 0 [some (.ref t0), some (.int x1)] [] h := by rw [hs_C, mL180]; rfl
theorem b180_0 {t0 t0_7 : Nat} {x1 : Int32} (o_t0 : ok2 S R t0) (e_t0_7 : R t0 7 = t0_7) (o_t0_7 : ok5 S R t0_7) : hs_R scr d 180 0 [some (.ref t0), some (.int x1)] [] (S, I, L, R) = (if hs_ib x1 60 = true then hs_R scr d 180 (hs_swt (I (t0_7 + 1) (Int32.toNatClampNeg x1)) 25 29 [52, 116, 78, 116, 44] 116) [some (.ref t0), some (.int x1)] [] (S, I, L, R) else none) := Eq.trans (r_al_n d180_0 rfl) (Eq.trans (r_getRe d180_1 f180_34 o_t0.2.1 e_t0_7 o_t0_7.1) (Eq.trans (r_getRe d180_4 f180_51 o_t0_7.2.1 (o_t0_7.2.2.1) (Nat.le_trans o_t0_7.1 (Nat.le_add_right _ _))) (Eq.trans (r_il_n d180_7 rfl) (Eq.trans (r_iald d180_8 (o_t0_7.2.2.2.1)) (q_ite (r_tsw d180_9 rfl rfl rfl) rfl)))))
theorem b180_44 {t0 t0_7 : Nat} {x1 : Int32} (o_t0 : ok2 S R t0) (e_t0_7 : R t0 7 = t0_7) (o_t0_7 : ok5 S R t0_7) : hs_R scr d 180 44 [some (.ref t0), some (.int x1)] [] (S, I, L, R) = some (some (.int (I t0_7 5)), (S, I, L, R)) := Eq.trans (r_al_n d180_44 rfl) (Eq.trans (r_getRe d180_45 f180_34 o_t0.2.1 e_t0_7 o_t0_7.1) (Eq.trans (r_getI d180_48 f180_48 o_t0_7.2.1) (r_ri d180_51 rt180)))
theorem b180_52 {t0 : Nat} {x1 : Int32} (o_t0 : ok2 S R t0) : hs_R scr (d + 1) 180 52 [some (.ref t0), some (.int x1)] [] (S, I, L, R) = ((hs_C scr d 181 [.ref t0, .int x1] (S, I, L, R)).bind fun o => hs_R scr (d + 1) 180 57 [some (.ref t0), some (.int x1)] (o.1.toList ++ []) o.2) := Eq.trans (r_al_n d180_52 rfl) (Eq.trans (r_il_n d180_53 rfl) (r_cvE (as := [.int x1]) (r := []) d180_54 c180_68 ow181 o_t0.2.1 np181.symm rfl (hs_fitE mL181 (Nat.le_of_ble_eq_true rfl))))
theorem b180_57 {t0 t0_7 : Nat} {x1 s0 : Int32} (o_t0 : ok2 S R t0) (e_t0_7 : R t0 7 = t0_7) (o_t0_7 : ok5 S R t0_7) : hs_R scr d 180 57 [some (.ref t0), some (.int x1)] [.int s0] (S, I, L, R) = (if s0 = 0 then (if hs_ib x1 60 = true then hs_R scr d 180 77 [some (.ref t0), some (.int x1)] [.int ((I (t0_7 + 5) (Int32.toNatClampNeg x1)) + 1)] (S, I, L, R) else none) else hs_R scr d 180 77 [some (.ref t0), some (.int x1)] [.int (x1 + 1)] (S, I, L, R)) := Eq.trans (r_zeq d180_57 rfl) (q_ite (Eq.trans (r_al_n d180_66 rfl) (Eq.trans (r_getRe d180_67 f180_34 o_t0.2.1 e_t0_7 o_t0_7.1) (Eq.trans (r_getRe d180_70 f180_65 o_t0_7.2.1 (o_t0_7.2.2.2.2.2.2.2.2.2.2.1) (Nat.le_trans o_t0_7.1 (Nat.le_add_right _ _))) (Eq.trans (r_il_n d180_73 rfl) (Eq.trans (r_iald d180_74 (o_t0_7.2.2.2.2.2.2.2.2.2.2.2)) (q_ite (Eq.trans (r_ic d180_75 kI_1) (Eq.trans (r_iadd d180_76) (rfl))) rfl)))))) (Eq.trans (r_il_n d180_60 rfl) (Eq.trans (r_ic d180_61 kI_1) (Eq.trans (r_iadd d180_62) (Eq.trans (r_goto d180_63 rfl) (rfl))))))
theorem b180_77 {t0 : Nat} {x1 s0 : Int32}  : hs_R scr d 180 77 [some (.ref t0), some (.int x1)] [.int s0] (S, I, L, R) = some (some (.int s0), (S, I, L, R)) := r_ri d180_77 rt180
theorem b180_78 {t0 t0_7 : Nat} {x1 : Int32} (o_t0 : ok2 S R t0) (e_t0_7 : R t0 7 = t0_7) (o_t0_7 : ok5 S R t0_7) : hs_R scr d 180 78 [some (.ref t0), some (.int x1)] [] (S, I, L, R) = (if hs_ib x1 60 = true then (if (I (t0_7 + 5) (Int32.toNatClampNeg x1)) = (x1 + 1) then hs_R scr d 180 111 [some (.ref t0), some (.int x1)] [.int 1, .int x1, .ref (t0 + 1)] (S, I, L, R) else (if hs_ib x1 60 = true then hs_R scr d 180 111 [some (.ref t0), some (.int x1)] [.int (I (t0_7 + 4) (Int32.toNatClampNeg x1)), .int x1, .ref (t0 + 1)] (S, I, L, R) else none)) else none) := Eq.trans (r_al_n d180_78 rfl) (Eq.trans (r_getRe d180_79 f180_11 o_t0.2.1 (o_t0.2.2.1) (Nat.le_trans o_t0.1 (Nat.le_add_right _ _))) (Eq.trans (r_il_n d180_82 rfl) (Eq.trans (r_al_n d180_83 rfl) (Eq.trans (r_getRe d180_84 f180_34 o_t0.2.1 e_t0_7 o_t0_7.1) (Eq.trans (r_getRe d180_87 f180_65 o_t0_7.2.1 (o_t0_7.2.2.2.2.2.2.2.2.2.2.1) (Nat.le_trans o_t0_7.1 (Nat.le_add_right _ _))) (Eq.trans (r_il_n d180_90 rfl) (Eq.trans (r_iald d180_91 (o_t0_7.2.2.2.2.2.2.2.2.2.2.2)) (q_ite (Eq.trans (r_il_n d180_92 rfl) (Eq.trans (r_ic d180_93 kI_1) (Eq.trans (r_iadd d180_94) (Eq.trans (r_cne d180_95 rfl) (q_ite (Eq.trans (r_ic d180_98 kI_1) (Eq.trans (r_goto d180_99 rfl) (rfl))) (Eq.trans (r_al_n d180_102 rfl) (Eq.trans (r_getRe d180_103 f180_34 o_t0.2.1 e_t0_7 o_t0_7.1) (Eq.trans (r_getRe d180_106 f180_71 o_t0_7.2.1 (o_t0_7.2.2.2.2.2.2.2.2.1) (Nat.le_trans o_t0_7.1 (Nat.le_add_right _ _))) (Eq.trans (r_il_n d180_109 rfl) (Eq.trans (r_iald d180_110 (o_t0_7.2.2.2.2.2.2.2.2.2.1)) (q_ite (rfl) rfl))))))))))) rfl))))))))
theorem b180_111 {t0 u0 n_u0 : Nat} {x1 s1 s2 : Int32} (a_u0 : S[u0]? = some (.inr (.int, n_u0))) : hs_R scr d 180 111 [some (.ref t0), some (.int x1)] [.int s2, .int s1, .ref u0] (S, I, L, R) = (if hs_ib s1 n_u0 = true then some (some (.int (x1 + 1)), (S, (hs_u I u0 (Int32.toNatClampNeg s1) s2), L, R)) else none) := Eq.trans (r_iast d180_111 a_u0) (q_ite (Eq.trans (r_il_n d180_112 rfl) (Eq.trans (r_ic d180_113 kI_1) (Eq.trans (r_iadd d180_114) (r_ri d180_115 rt180)))) rfl)
theorem b180_116 {t0 : Nat} {x1 : Int32}  : hs_R scr d 180 116 [some (.ref t0), some (.int x1)] [] (S, I, L, R) = some (some (.int (x1 + 1)), (S, I, L, R)) := Eq.trans (r_il_n d180_116 rfl) (Eq.trans (r_ic d180_117 kI_1) (Eq.trans (r_iadd d180_118) (r_ri d180_119 rt180)))
theorem e181 {t0 : Nat} {x1 : Int32} : hs_C scr d 181 [.ref t0, .int x1] h = hs_R scr d 181 0 [some (.ref t0), some (.int x1), none, none] [] h := by rw [hs_C, mL181]; rfl
theorem b181_72 {t0 t0_8 : Nat} {x1 x2 x3 : Int32} (o_t0 : ok2 S R t0) (e_t0_8 : R t0 8 = t0_8) (o_t0_8 : ok4 S R t0_8) : hs_R scr (d + 1) 181 72 [some (.ref t0), some (.int x1), some (.int x2), some (.int x3)] [] (S, I, L, R) = ((hs_C scr d 121 [.ref t0_8, .int x2, .int 0] (S, I, L, R)).bind fun o => hs_R scr (d + 1) 181 81 [some (.ref t0), some (.int x1), some (.int x2), some (.int x3)] (o.1.toList ++ []) o.2) := Eq.trans (r_al_n d181_72 rfl) (Eq.trans (r_getRe d181_73 f181_38 o_t0.2.1 e_t0_8 o_t0_8.1) (Eq.trans (r_il_n d181_76 rfl) (Eq.trans (r_ic d181_77 kI_0) (r_cvE (as := [.int x2, .int 0]) (r := []) d181_78 c181_80 ow121 o_t0_8.2.1 np121.symm rfl (hs_fitE mL121 (Nat.le_of_ble_eq_true rfl))))))
theorem b181_81 {t0 : Nat} {x1 x2 x3 s0 : Int32}  : hs_R scr d 181 81 [some (.ref t0), some (.int x1), some (.int x2), some (.int x3)] [.int s0] (S, I, L, R) = (if s0 = 0 ∨ s0 = 1 then some (some (.int s0), (S, I, L, R)) else none) := r_rz d181_81 rt181
theorem b181_82 {t0 t0_8 : Nat} {x1 x2 x3 : Int32} (o_t0 : ok2 S R t0) (e_t0_8 : R t0 8 = t0_8) (o_t0_8 : ok4 S R t0_8) : hs_R scr d 181 82 [some (.ref t0), some (.int x1), some (.int x2), some (.int x3)] [] (S, I, L, R) = (if hs_ib x2 8 = true then (if x3 ≤ (I (t0_8 + 6) (Int32.toNatClampNeg x2)) then hs_R scr d 181 103 [some (.ref t0), some (.int x1), some (.int x2), some (.int x3)] [.int 0] (S, I, L, R) else hs_R scr d 181 103 [some (.ref t0), some (.int x1), some (.int x2), some (.int x3)] [.int 1] (S, I, L, R)) else none) := Eq.trans (r_al_n d181_82 rfl) (Eq.trans (r_getRe d181_83 f181_38 o_t0.2.1 e_t0_8 o_t0_8.1) (Eq.trans (r_getRe d181_86 f181_86 o_t0_8.2.1 (o_t0_8.2.2.2.2.1) (Nat.le_trans o_t0_8.1 (Nat.le_add_right _ _))) (Eq.trans (r_getRe d181_89 f181_90 (o_t0_8.2.2.2.2.2.1).2.1 ((o_t0_8.2.2.2.2.2.1).2.2.1) (Nat.le_trans (o_t0_8.2.2.2.2.2.1).1 (Nat.le_add_right _ _))) (Eq.trans (r_il_n d181_92 rfl) (Eq.trans (r_iald d181_93 ((o_t0_8.2.2.2.2.2.1).2.2.2.1)) (q_ite (Eq.trans (r_il_n d181_94 rfl) (Eq.trans (r_cge d181_95 rfl) (q_ite (Eq.trans (r_ic d181_102 kI_0) (rfl)) (Eq.trans (r_ic d181_98 kI_1) (Eq.trans (r_goto d181_99 rfl) (rfl)))))) rfl))))))
theorem b181_103 {t0 : Nat} {x1 x2 x3 s0 : Int32}  : hs_R scr d 181 103 [some (.ref t0), some (.int x1), some (.int x2), some (.int x3)] [.int s0] (S, I, L, R) = (if s0 = 0 ∨ s0 = 1 then some (some (.int s0), (S, I, L, R)) else none) := r_rz d181_103 rt181
theorem b181_104 {t0 t0_8 : Nat} {x1 x2 x3 : Int32} (o_t0 : ok2 S R t0) (e_t0_8 : R t0 8 = t0_8) (o_t0_8 : ok4 S R t0_8) : hs_R scr d 181 104 [some (.ref t0), some (.int x1), some (.int x2), some (.int x3)] [] (S, I, L, R) = (if hs_ib x2 8 = true then (if (I (t0_8 + 6) (Int32.toNatClampNeg x2)) ≤ x3 then hs_R scr d 181 125 [some (.ref t0), some (.int x1), some (.int x2), some (.int x3)] [.int 0] (S, I, L, R) else hs_R scr d 181 125 [some (.ref t0), some (.int x1), some (.int x2), some (.int x3)] [.int 1] (S, I, L, R)) else none) := Eq.trans (r_al_n d181_104 rfl) (Eq.trans (r_getRe d181_105 f181_38 o_t0.2.1 e_t0_8 o_t0_8.1) (Eq.trans (r_getRe d181_108 f181_86 o_t0_8.2.1 (o_t0_8.2.2.2.2.1) (Nat.le_trans o_t0_8.1 (Nat.le_add_right _ _))) (Eq.trans (r_getRe d181_111 f181_90 (o_t0_8.2.2.2.2.2.1).2.1 ((o_t0_8.2.2.2.2.2.1).2.2.1) (Nat.le_trans (o_t0_8.2.2.2.2.2.1).1 (Nat.le_add_right _ _))) (Eq.trans (r_il_n d181_114 rfl) (Eq.trans (r_iald d181_115 ((o_t0_8.2.2.2.2.2.1).2.2.2.1)) (q_ite (Eq.trans (r_il_n d181_116 rfl) (Eq.trans (r_cle d181_117 rfl) (q_ite (Eq.trans (r_ic d181_124 kI_0) (rfl)) (Eq.trans (r_ic d181_120 kI_1) (Eq.trans (r_goto d181_121 rfl) (rfl)))))) rfl))))))
theorem b181_125 {t0 : Nat} {x1 x2 x3 s0 : Int32}  : hs_R scr d 181 125 [some (.ref t0), some (.int x1), some (.int x2), some (.int x3)] [.int s0] (S, I, L, R) = (if s0 = 0 ∨ s0 = 1 then some (some (.int s0), (S, I, L, R)) else none) := r_rz d181_125 rt181
theorem b181_126 {t0 t0_8 : Nat} {x1 x2 x3 : Int32} (o_t0 : ok2 S R t0) (e_t0_8 : R t0 8 = t0_8) (o_t0_8 : ok4 S R t0_8) : hs_R scr d 181 126 [some (.ref t0), some (.int x1), some (.int x2), some (.int x3)] [] (S, I, L, R) = (if hs_ib x2 8 = true then (if (I (t0_8 + 6) (Int32.toNatClampNeg x2)) = x3 then hs_R scr d 181 147 [some (.ref t0), some (.int x1), some (.int x2), some (.int x3)] [.int 1] (S, I, L, R) else hs_R scr d 181 147 [some (.ref t0), some (.int x1), some (.int x2), some (.int x3)] [.int 0] (S, I, L, R)) else none) := Eq.trans (r_al_n d181_126 rfl) (Eq.trans (r_getRe d181_127 f181_38 o_t0.2.1 e_t0_8 o_t0_8.1) (Eq.trans (r_getRe d181_130 f181_86 o_t0_8.2.1 (o_t0_8.2.2.2.2.1) (Nat.le_trans o_t0_8.1 (Nat.le_add_right _ _))) (Eq.trans (r_getRe d181_133 f181_90 (o_t0_8.2.2.2.2.2.1).2.1 ((o_t0_8.2.2.2.2.2.1).2.2.1) (Nat.le_trans (o_t0_8.2.2.2.2.2.1).1 (Nat.le_add_right _ _))) (Eq.trans (r_il_n d181_136 rfl) (Eq.trans (r_iald d181_137 ((o_t0_8.2.2.2.2.2.1).2.2.2.1)) (q_ite (Eq.trans (r_il_n d181_138 rfl) (Eq.trans (r_cne d181_139 rfl) (q_ite (Eq.trans (r_ic d181_142 kI_1) (Eq.trans (r_goto d181_143 rfl) (rfl))) (Eq.trans (r_ic d181_146 kI_0) (rfl))))) rfl))))))
theorem b181_147 {t0 : Nat} {x1 x2 x3 s0 : Int32}  : hs_R scr d 181 147 [some (.ref t0), some (.int x1), some (.int x2), some (.int x3)] [.int s0] (S, I, L, R) = (if s0 = 0 ∨ s0 = 1 then some (some (.int s0), (S, I, L, R)) else none) := r_rz d181_147 rt181
theorem b181_148 {t0 t0_8 : Nat} {x1 x2 x3 : Int32} (o_t0 : ok2 S R t0) (e_t0_8 : R t0 8 = t0_8) (o_t0_8 : ok4 S R t0_8) : hs_R scr d 181 148 [some (.ref t0), some (.int x1), some (.int x2), some (.int x3)] [] (S, I, L, R) = (if (I t0_8 16) = 0 ∨ (I t0_8 16) = 1 then some (some (.int (I t0_8 16)), (S, I, L, R)) else none) := Eq.trans (r_al_n d181_148 rfl) (Eq.trans (r_getRe d181_149 f181_38 o_t0.2.1 e_t0_8 o_t0_8.1) (Eq.trans (r_getZ d181_152 f181_95 o_t0_8.2.1) (r_rz d181_155 rt181)))
theorem e183 {t0 : Nat} {x1 : Int32} : hs_C scr d 183 [.ref t0, .int x1] h = hs_R scr d 183 0 [some (.ref t0), some (.int x1)] [] h := by rw [hs_C, mL183]; rfl
theorem b183_0 {t0 : Nat} {x1 : Int32}  : hs_R scr d 183 0 [some (.ref t0), some (.int x1)] [] (S, I, L, R) = hs_R scr d 183 (hs_swt x1 0 3 [32, 37, 42, 47] 52) [some (.ref t0), some (.int x1)] [] (S, I, L, R) := Eq.trans (r_il_n d183_0 rfl) (r_tsw d183_1 rfl rfl rfl)
theorem b183_32 {t0 : Nat} {x1 : Int32} (o_t0 : ok2 S R t0) : hs_R scr d 183 32 [some (.ref t0), some (.int x1)] [] (S, I, L, R) = some (some (.int (I t0 1)), (S, I, L, R)) := Eq.trans (r_al_n d183_32 rfl) (Eq.trans (r_getI d183_33 f183_17 o_t0.2.1) (r_ri d183_36 rt183))
theorem b183_37 {t0 : Nat} {x1 : Int32} (o_t0 : ok2 S R t0) : hs_R scr d 183 37 [some (.ref t0), some (.int x1)] [] (S, I, L, R) = some (some (.int (I t0 2)), (S, I, L, R)) := Eq.trans (r_al_n d183_37 rfl) (Eq.trans (r_getI d183_38 f183_21 o_t0.2.1) (r_ri d183_41 rt183))
theorem b183_42 {t0 : Nat} {x1 : Int32} (o_t0 : ok2 S R t0) : hs_R scr d 183 42 [some (.ref t0), some (.int x1)] [] (S, I, L, R) = some (some (.int (I t0 3)), (S, I, L, R)) := Eq.trans (r_al_n d183_42 rfl) (Eq.trans (r_getI d183_43 f183_24 o_t0.2.1) (r_ri d183_46 rt183))
theorem b183_47 {t0 : Nat} {x1 : Int32} (o_t0 : ok2 S R t0) : hs_R scr d 183 47 [some (.ref t0), some (.int x1)] [] (S, I, L, R) = some (some (.int (I t0 4)), (S, I, L, R)) := Eq.trans (r_al_n d183_47 rfl) (Eq.trans (r_getI d183_48 f183_27 o_t0.2.1) (r_ri d183_51 rt183))
theorem b183_52 {t0 : Nat} {x1 : Int32} (o_t0 : ok2 S R t0) : hs_R scr d 183 52 [some (.ref t0), some (.int x1)] [] (S, I, L, R) = (if (I t0 5) = 0 then hs_R scr d 183 64 [some (.ref t0), some (.int x1)] [.int 0] (S, I, L, R) else hs_R scr d 183 64 [some (.ref t0), some (.int x1)] [.int 1] (S, I, L, R)) := Eq.trans (r_al_n d183_52 rfl) (Eq.trans (r_getZ d183_53 f183_30 o_t0.2.1) (Eq.trans (r_zeq d183_56 rfl) (q_ite (Eq.trans (r_ic d183_63 kI_0) (rfl)) (Eq.trans (r_ic d183_59 kI_1) (Eq.trans (r_goto d183_60 rfl) (rfl))))))
theorem b183_64 {t0 : Nat} {x1 s0 : Int32}  : hs_R scr d 183 64 [some (.ref t0), some (.int x1)] [.int s0] (S, I, L, R) = some (some (.int s0), (S, I, L, R)) := r_ri d183_64 rt183
theorem e185 {t0 : Nat} {t1 : Nat} : hs_C scr d 185 [.ref t0, .ref t1] h = hs_R scr d 185 0 [some (.ref t0), some (.ref t1)] [] h := by rw [hs_C, mL185]; rfl
theorem b185_0 {t0 t1 : Nat} (o_t0 : ok4 S R t0) (o_t1 : ok4 S R t1) : hs_R scr (d + 1) 185 0 [some (.ref t0), some (.ref t1)] [] (S, I, L, R) = ((hs_C scr d 186 [.ref (t0 + 1), .ref (t1 + 1)] (S, I, L, R)).bind fun o => hs_R scr (d + 1) 185 11 [some (.ref t0), some (.ref t1)] (o.1.toList ++ []) o.2) := Eq.trans (r_al_n d185_0 rfl) (Eq.trans (r_getRe d185_1 f185_12 o_t0.2.1 (o_t0.2.2.1) (Nat.le_trans o_t0.1 (Nat.le_add_right _ _))) (Eq.trans (r_al_n d185_4 rfl) (Eq.trans (r_getRe d185_5 f185_12 o_t1.2.1 (o_t1.2.2.1) (Nat.le_trans o_t1.1 (Nat.le_add_right _ _))) (r_cvE (as := [.ref (t1 + 1)]) (r := []) d185_8 c185_83 ow186 (o_t0.2.2.2.1).2.1 np186.symm rfl (hs_fitE mL186 (Nat.le_of_ble_eq_true rfl))))))
theorem b185_11 {t0 t1 : Nat} (o_t0 : ok4 S R t0) (o_t1 : ok4 S R t1) : hs_R scr (d + 1) 185 11 [some (.ref t0), some (.ref t1)] [] (S, I, L, R) = ((hs_C scr d 187 [.ref (t0 + 5), .ref (t1 + 5)] (S, I, L, R)).bind fun o => hs_R scr (d + 1) 185 22 [some (.ref t0), some (.ref t1)] (o.1.toList ++ []) o.2) := Eq.trans (r_al_n d185_11 rfl) (Eq.trans (r_getRe d185_12 f185_21 o_t0.2.1 (o_t0.2.2.2.2.1) (Nat.le_trans o_t0.1 (Nat.le_add_right _ _))) (Eq.trans (r_al_n d185_15 rfl) (Eq.trans (r_getRe d185_16 f185_21 o_t1.2.1 (o_t1.2.2.2.2.1) (Nat.le_trans o_t1.1 (Nat.le_add_right _ _))) (r_cvE (as := [.ref (t1 + 5)]) (r := []) d185_19 c185_87 ow187 (o_t0.2.2.2.2.2.1).2.1 np187.symm rfl (hs_fitE mL187 (Nat.le_of_ble_eq_true rfl))))))
theorem b185_22 {t0 t1 : Nat} (o_t1 : ok4 S R t1) (o_t0 : ok4 S R t0) : hs_R scr d 185 22 [some (.ref t0), some (.ref t1)] [] (S, I, L, R) = (if ¬ (0 : Int32) < 0 ∧ ¬ (0 : Int32) < 0 ∧ ¬ (5 : Int32) < 0 ∧ Int32.toNatClampNeg (0 : Int32) + Int32.toNatClampNeg (5 : Int32) ≤ 5 ∧ Int32.toNatClampNeg (0 : Int32) + Int32.toNatClampNeg (5 : Int32) ≤ 5 then (if ¬ (0 : Int32) < 0 ∧ ¬ (0 : Int32) < 0 ∧ ¬ (5 : Int32) < 0 ∧ Int32.toNatClampNeg (0 : Int32) + Int32.toNatClampNeg (5 : Int32) ≤ 5 ∧ Int32.toNatClampNeg (0 : Int32) + Int32.toNatClampNeg (5 : Int32) ≤ 5 then (if ¬ (0 : Int32) < 0 ∧ ¬ (0 : Int32) < 0 ∧ ¬ (6 : Int32) < 0 ∧ Int32.toNatClampNeg (0 : Int32) + Int32.toNatClampNeg (6 : Int32) ≤ 6 ∧ Int32.toNatClampNeg (0 : Int32) + Int32.toNatClampNeg (6 : Int32) ≤ 6 then (if ¬ (0 : Int32) < 0 ∧ ¬ (0 : Int32) < 0 ∧ ¬ (48 : Int32) < 0 ∧ Int32.toNatClampNeg (0 : Int32) + Int32.toNatClampNeg (48 : Int32) ≤ 48 ∧ Int32.toNatClampNeg (0 : Int32) + Int32.toNatClampNeg (48 : Int32) ≤ 48 then (if ¬ (0 : Int32) < 0 ∧ ¬ (0 : Int32) < 0 ∧ ¬ (10 : Int32) < 0 ∧ Int32.toNatClampNeg (0 : Int32) + Int32.toNatClampNeg (10 : Int32) ≤ 10 ∧ Int32.toNatClampNeg (0 : Int32) + Int32.toNatClampNeg (10 : Int32) ≤ 10 then (if ¬ (0 : Int32) < 0 ∧ ¬ (0 : Int32) < 0 ∧ ¬ (10 : Int32) < 0 ∧ Int32.toNatClampNeg (0 : Int32) + Int32.toNatClampNeg (10 : Int32) ≤ 10 ∧ Int32.toNatClampNeg (0 : Int32) + Int32.toNatClampNeg (10 : Int32) ≤ 10 then hs_R scr d 185 118 [some (.ref t0), some (.ref t1)] [] (S, (hs_u (hs_cpy (hs_cpy (hs_cpy (hs_cpy (hs_cpy (hs_cpy I (t1 + 10) (t0 + 10) (Int32.toNatClampNeg (0 : Int32)) (Int32.toNatClampNeg (0 : Int32)) (Int32.toNatClampNeg (5 : Int32))) (t1 + 11) (t0 + 11) (Int32.toNatClampNeg (0 : Int32)) (Int32.toNatClampNeg (0 : Int32)) (Int32.toNatClampNeg (5 : Int32))) (t1 + 12) (t0 + 12) (Int32.toNatClampNeg (0 : Int32)) (Int32.toNatClampNeg (0 : Int32)) (Int32.toNatClampNeg (6 : Int32))) (t1 + 13) (t0 + 13) (Int32.toNatClampNeg (0 : Int32)) (Int32.toNatClampNeg (0 : Int32)) (Int32.toNatClampNeg (48 : Int32))) (t1 + 14) (t0 + 14) (Int32.toNatClampNeg (0 : Int32)) (Int32.toNatClampNeg (0 : Int32)) (Int32.toNatClampNeg (10 : Int32))) (t1 + 15) (t0 + 15) (Int32.toNatClampNeg (0 : Int32)) (Int32.toNatClampNeg (0 : Int32)) (Int32.toNatClampNeg (10 : Int32))) t0 8 ((hs_cpy (hs_cpy (hs_cpy (hs_cpy (hs_cpy (hs_cpy I (t1 + 10) (t0 + 10) (Int32.toNatClampNeg (0 : Int32)) (Int32.toNatClampNeg (0 : Int32)) (Int32.toNatClampNeg (5 : Int32))) (t1 + 11) (t0 + 11) (Int32.toNatClampNeg (0 : Int32)) (Int32.toNatClampNeg (0 : Int32)) (Int32.toNatClampNeg (5 : Int32))) (t1 + 12) (t0 + 12) (Int32.toNatClampNeg (0 : Int32)) (Int32.toNatClampNeg (0 : Int32)) (Int32.toNatClampNeg (6 : Int32))) (t1 + 13) (t0 + 13) (Int32.toNatClampNeg (0 : Int32)) (Int32.toNatClampNeg (0 : Int32)) (Int32.toNatClampNeg (48 : Int32))) (t1 + 14) (t0 + 14) (Int32.toNatClampNeg (0 : Int32)) (Int32.toNatClampNeg (0 : Int32)) (Int32.toNatClampNeg (10 : Int32))) (t1 + 15) (t0 + 15) (Int32.toNatClampNeg (0 : Int32)) (Int32.toNatClampNeg (0 : Int32)) (Int32.toNatClampNeg (10 : Int32))) t1 8)), L, R) else none) else none) else none) else none) else none) else none) := Eq.trans (r_al_n d185_22 rfl) (Eq.trans (r_getRe d185_23 f185_25 o_t1.2.1 (o_t1.2.2.2.2.2.2.1) (Nat.le_trans o_t1.1 (Nat.le_add_right _ _))) (Eq.trans (r_ic d185_26 kI_0) (Eq.trans (r_al_n d185_27 rfl) (Eq.trans (r_getRe d185_28 f185_25 o_t0.2.1 (o_t0.2.2.2.2.2.2.1) (Nat.le_trans o_t0.1 (Nat.le_add_right _ _))) (Eq.trans (r_ic d185_31 kI_0) (Eq.trans (r_ic d185_32 kI_5) (Eq.trans (r_acpI d185_33 c185_90 (o_t1.2.2.2.2.2.2.2.1) (o_t0.2.2.2.2.2.2.2.1) rfl) (q_ite (Eq.trans (r_al_n d185_36 rfl) (Eq.trans (r_getRe d185_37 f185_29 o_t1.2.1 (o_t1.2.2.2.2.2.2.2.2.1) (Nat.le_trans o_t1.1 (Nat.le_add_right _ _))) (Eq.trans (r_ic d185_40 kI_0) (Eq.trans (r_al_n d185_41 rfl) (Eq.trans (r_getRe d185_42 f185_29 o_t0.2.1 (o_t0.2.2.2.2.2.2.2.2.1) (Nat.le_trans o_t0.1 (Nat.le_add_right _ _))) (Eq.trans (r_ic d185_45 kI_0) (Eq.trans (r_ic d185_46 kI_5) (Eq.trans (r_acpI d185_47 c185_90 (o_t1.2.2.2.2.2.2.2.2.2.1) (o_t0.2.2.2.2.2.2.2.2.2.1) rfl) (q_ite (Eq.trans (r_al_n d185_50 rfl) (Eq.trans (r_getRe d185_51 f185_32 o_t1.2.1 (o_t1.2.2.2.2.2.2.2.2.2.2.1) (Nat.le_trans o_t1.1 (Nat.le_add_right _ _))) (Eq.trans (r_ic d185_54 kI_0) (Eq.trans (r_al_n d185_55 rfl) (Eq.trans (r_getRe d185_56 f185_32 o_t0.2.1 (o_t0.2.2.2.2.2.2.2.2.2.2.1) (Nat.le_trans o_t0.1 (Nat.le_add_right _ _))) (Eq.trans (r_ic d185_59 kI_0) (Eq.trans (r_bp d185_60 kB_6) (Eq.trans (r_acpI d185_62 c185_90 (o_t1.2.2.2.2.2.2.2.2.2.2.2.1) (o_t0.2.2.2.2.2.2.2.2.2.2.2.1) rfl) (q_ite (Eq.trans (r_al_n d185_65 rfl) (Eq.trans (r_getRe d185_66 f185_35 o_t1.2.1 (o_t1.2.2.2.2.2.2.2.2.2.2.2.2.1) (Nat.le_trans o_t1.1 (Nat.le_add_right _ _))) (Eq.trans (r_ic d185_69 kI_0) (Eq.trans (r_al_n d185_70 rfl) (Eq.trans (r_getRe d185_71 f185_35 o_t0.2.1 (o_t0.2.2.2.2.2.2.2.2.2.2.2.2.1) (Nat.le_trans o_t0.1 (Nat.le_add_right _ _))) (Eq.trans (r_ic d185_74 kI_0) (Eq.trans (r_bp d185_75 kB_48) (Eq.trans (r_acpI d185_77 c185_90 (o_t1.2.2.2.2.2.2.2.2.2.2.2.2.2.1) (o_t0.2.2.2.2.2.2.2.2.2.2.2.2.2.1) rfl) (q_ite (Eq.trans (r_al_n d185_80 rfl) (Eq.trans (r_getRe d185_81 f185_38 o_t1.2.1 (o_t1.2.2.2.2.2.2.2.2.2.2.2.2.2.2.1) (Nat.le_trans o_t1.1 (Nat.le_add_right _ _))) (Eq.trans (r_ic d185_84 kI_0) (Eq.trans (r_al_n d185_85 rfl) (Eq.trans (r_getRe d185_86 f185_38 o_t0.2.1 (o_t0.2.2.2.2.2.2.2.2.2.2.2.2.2.2.1) (Nat.le_trans o_t0.1 (Nat.le_add_right _ _))) (Eq.trans (r_ic d185_89 kI_0) (Eq.trans (r_bp d185_90 kB_10) (Eq.trans (r_acpI d185_92 c185_90 (o_t1.2.2.2.2.2.2.2.2.2.2.2.2.2.2.2.1) (o_t0.2.2.2.2.2.2.2.2.2.2.2.2.2.2.2.1) rfl) (q_ite (Eq.trans (r_al_n d185_95 rfl) (Eq.trans (r_getRe d185_96 f185_41 o_t1.2.1 (o_t1.2.2.2.2.2.2.2.2.2.2.2.2.2.2.2.2.1) (Nat.le_trans o_t1.1 (Nat.le_add_right _ _))) (Eq.trans (r_ic d185_99 kI_0) (Eq.trans (r_al_n d185_100 rfl) (Eq.trans (r_getRe d185_101 f185_41 o_t0.2.1 (o_t0.2.2.2.2.2.2.2.2.2.2.2.2.2.2.2.2.1) (Nat.le_trans o_t0.1 (Nat.le_add_right _ _))) (Eq.trans (r_ic d185_104 kI_0) (Eq.trans (r_bp d185_105 kB_10) (Eq.trans (r_acpI d185_107 c185_90 (o_t1.2.2.2.2.2.2.2.2.2.2.2.2.2.2.2.2.2) (o_t0.2.2.2.2.2.2.2.2.2.2.2.2.2.2.2.2.2) rfl) (q_ite (Eq.trans (r_al_n d185_110 rfl) (Eq.trans (r_al_n d185_111 rfl) (Eq.trans (r_getI d185_112 f185_52 o_t1.2.1) (Eq.trans (r_putI d185_115 f185_52 o_t0.2.1) (rfl))))) rfl))))))))) rfl))))))))) rfl))))))))) rfl))))))))) rfl))))))))) rfl))))))))
theorem b185_118 {t0 t1 : Nat} (o_t1 : ok4 S R t1) (o_t0 : ok4 S R t0) : hs_R scr d 185 118 [some (.ref t0), some (.ref t1)] [] (S, I, L, R) = hs_R scr d 185 126 [some (.ref t0), some (.ref t1)] [] (S, (hs_u I t0 9 (I t1 9)), L, R) := Eq.trans (r_al_n d185_118 rfl) (Eq.trans (r_al_n d185_119 rfl) (Eq.trans (r_getI d185_120 f185_55 o_t1.2.1) (Eq.trans (r_putI d185_123 f185_55 o_t0.2.1) (rfl))))
theorem b185_126 {t0 t1 : Nat} (o_t1 : ok4 S R t1) (o_t0 : ok4 S R t0) : hs_R scr d 185 126 [some (.ref t0), some (.ref t1)] [] (S, I, L, R) = hs_R scr d 185 134 [some (.ref t0), some (.ref t1)] [] (S, (hs_u I t0 10 (I t1 10)), L, R) := Eq.trans (r_al_n d185_126 rfl) (Eq.trans (r_al_n d185_127 rfl) (Eq.trans (r_getI d185_128 f185_58 o_t1.2.1) (Eq.trans (r_putI d185_131 f185_58 o_t0.2.1) (rfl))))
theorem b185_134 {t0 t1 : Nat} (o_t1 : ok4 S R t1) (o_t0 : ok4 S R t0) : hs_R scr d 185 134 [some (.ref t0), some (.ref t1)] [] (S, I, L, R) = hs_R scr d 185 142 [some (.ref t0), some (.ref t1)] [] (S, (hs_u I t0 11 (I t1 11)), L, R) := Eq.trans (r_al_n d185_134 rfl) (Eq.trans (r_al_n d185_135 rfl) (Eq.trans (r_getI d185_136 f185_61 o_t1.2.1) (Eq.trans (r_putI d185_139 f185_61 o_t0.2.1) (rfl))))
theorem b185_142 {t0 t1 : Nat} (o_t1 : ok4 S R t1) (o_t0 : ok4 S R t0) : hs_R scr d 185 142 [some (.ref t0), some (.ref t1)] [] (S, I, L, R) = hs_R scr d 185 150 [some (.ref t0), some (.ref t1)] [] (S, (hs_u I t0 12 (I t1 12)), L, R) := Eq.trans (r_al_n d185_142 rfl) (Eq.trans (r_al_n d185_143 rfl) (Eq.trans (r_getI d185_144 f185_64 o_t1.2.1) (Eq.trans (r_putI d185_147 f185_64 o_t0.2.1) (rfl))))
theorem b185_150 {t0 t1 : Nat} (o_t1 : ok4 S R t1) (o_t0 : ok4 S R t0) : hs_R scr d 185 150 [some (.ref t0), some (.ref t1)] [] (S, I, L, R) = hs_R scr d 185 158 [some (.ref t0), some (.ref t1)] [] (S, (hs_u I t0 13 (I t1 13)), L, R) := Eq.trans (r_al_n d185_150 rfl) (Eq.trans (r_al_n d185_151 rfl) (Eq.trans (r_getI d185_152 f185_67 o_t1.2.1) (Eq.trans (r_putI d185_155 f185_67 o_t0.2.1) (rfl))))
theorem b185_158 {t0 t1 : Nat} (o_t1 : ok4 S R t1) (o_t0 : ok4 S R t0) : hs_R scr d 185 158 [some (.ref t0), some (.ref t1)] [] (S, I, L, R) = hs_R scr d 185 166 [some (.ref t0), some (.ref t1)] [] (S, (hs_u I t0 14 (I t1 14)), L, R) := Eq.trans (r_al_n d185_158 rfl) (Eq.trans (r_al_n d185_159 rfl) (Eq.trans (r_getI d185_160 f185_70 o_t1.2.1) (Eq.trans (r_putI d185_163 f185_70 o_t0.2.1) (rfl))))
theorem b185_166 {t0 t1 : Nat} (o_t1 : ok4 S R t1) (o_t0 : ok4 S R t0) : hs_R scr d 185 166 [some (.ref t0), some (.ref t1)] [] (S, I, L, R) = hs_R scr d 185 174 [some (.ref t0), some (.ref t1)] [] (S, (hs_u I t0 15 (I t1 15)), L, R) := Eq.trans (r_al_n d185_166 rfl) (Eq.trans (r_al_n d185_167 rfl) (Eq.trans (r_getI d185_168 f185_73 o_t1.2.1) (Eq.trans (r_putI d185_171 f185_73 o_t0.2.1) (rfl))))
theorem b185_174 {t0 t1 : Nat} (o_t1 : ok4 S R t1) (o_t0 : ok4 S R t0) : hs_R scr d 185 174 [some (.ref t0), some (.ref t1)] [] (S, I, L, R) = (if (I t1 16) = 0 ∨ (I t1 16) = 1 then hs_R scr d 185 182 [some (.ref t0), some (.ref t1)] [] (S, (hs_u I t0 16 (I t1 16)), L, R) else none) := Eq.trans (r_al_n d185_174 rfl) (Eq.trans (r_al_n d185_175 rfl) (Eq.trans (r_getZ d185_176 f185_76 o_t1.2.1) (Eq.trans (r_putZ d185_179 f185_76 o_t0.2.1) (q_ite (rfl) rfl))))
theorem b185_182 {t0 t1 : Nat} (o_t1 : ok4 S R t1) (o_t0 : ok4 S R t0) : hs_R scr d 185 182 [some (.ref t0), some (.ref t1)] [] (S, I, L, R) = hs_R scr d 185 190 [some (.ref t0), some (.ref t1)] [] (S, (hs_u I t0 17 (I t1 17)), L, R) := Eq.trans (r_al_n d185_182 rfl) (Eq.trans (r_al_n d185_183 rfl) (Eq.trans (r_getI d185_184 f185_80 o_t1.2.1) (Eq.trans (r_putI d185_187 f185_80 o_t0.2.1) (rfl))))
theorem b185_190 {t0 t1 : Nat}  : hs_R scr d 185 190 [some (.ref t0), some (.ref t1)] [] (S, I, L, R) = some (none, (S, I, L, R)) := r_rv d185_190 rt185
theorem e186 {t0 : Nat} {t1 : Nat} : hs_C scr d 186 [.ref t0, .ref t1] h = hs_R scr d 186 0 [some (.ref t0), some (.ref t1)] [] h := by rw [hs_C, mL186]; rfl
theorem b186_0 {t0 t1 : Nat} (o_t1 : ok3 S R t1) (o_t0 : ok3 S R t0) : hs_R scr d 186 0 [some (.ref t0), some (.ref t1)] [] (S, I, L, R) = (if ¬ (0 : Int32) < 0 ∧ ¬ (0 : Int32) < 0 ∧ ¬ (31 : Int32) < 0 ∧ Int32.toNatClampNeg (0 : Int32) + Int32.toNatClampNeg (31 : Int32) ≤ 31 ∧ Int32.toNatClampNeg (0 : Int32) + Int32.toNatClampNeg (31 : Int32) ≤ 31 then (if ¬ (0 : Int32) < 0 ∧ ¬ (0 : Int32) < 0 ∧ ¬ (31 : Int32) < 0 ∧ Int32.toNatClampNeg (0 : Int32) + Int32.toNatClampNeg (31 : Int32) ≤ 31 ∧ Int32.toNatClampNeg (0 : Int32) + Int32.toNatClampNeg (31 : Int32) ≤ 31 then (if ¬ (0 : Int32) < 0 ∧ ¬ (0 : Int32) < 0 ∧ ¬ (31 : Int32) < 0 ∧ Int32.toNatClampNeg (0 : Int32) + Int32.toNatClampNeg (31 : Int32) ≤ 31 ∧ Int32.toNatClampNeg (0 : Int32) + Int32.toNatClampNeg (31 : Int32) ≤ 31 then some (none, (S, (hs_cpy (hs_cpy (hs_u I t0 3 (I t1 3)) (t1 + 2) (t0 + 2) (Int32.toNatClampNeg (0 : Int32)) (Int32.toNatClampNeg (0 : Int32)) (Int32.toNatClampNeg (31 : Int32))) (t1 + 3) (t0 + 3) (Int32.toNatClampNeg (0 : Int32)) (Int32.toNatClampNeg (0 : Int32)) (Int32.toNatClampNeg (31 : Int32))), (hs_cpy L (t1 + 1) (t0 + 1) (Int32.toNatClampNeg (0 : Int32)) (Int32.toNatClampNeg (0 : Int32)) (Int32.toNatClampNeg (31 : Int32))), R)) else none) else none) else none) := Eq.trans (r_al_n d186_0 rfl) (Eq.trans (r_al_n d186_1 rfl) (Eq.trans (r_getI d186_2 f186_22 o_t1.2.1) (Eq.trans (r_putI d186_5 f186_22 o_t0.2.1) (Eq.trans (r_al_n d186_8 rfl) (Eq.trans (r_getRe d186_9 f186_9 o_t1.2.1 (o_t1.2.2.1) (Nat.le_trans o_t1.1 (Nat.le_add_right _ _))) (Eq.trans (r_ic d186_12 kI_0) (Eq.trans (r_al_n d186_13 rfl) (Eq.trans (r_getRe d186_14 f186_9 o_t0.2.1 (o_t0.2.2.1) (Nat.le_trans o_t0.1 (Nat.le_add_right _ _))) (Eq.trans (r_ic d186_17 kI_0) (Eq.trans (r_bp d186_18 kB_31) (Eq.trans (r_acpL d186_20 c186_26 (o_t1.2.2.2.1) (o_t0.2.2.2.1) rfl) (q_ite (Eq.trans (r_al_n d186_23 rfl) (Eq.trans (r_getRe d186_24 f186_15 o_t1.2.1 (o_t1.2.2.2.2.1) (Nat.le_trans o_t1.1 (Nat.le_add_right _ _))) (Eq.trans (r_ic d186_27 kI_0) (Eq.trans (r_al_n d186_28 rfl) (Eq.trans (r_getRe d186_29 f186_15 o_t0.2.1 (o_t0.2.2.2.2.1) (Nat.le_trans o_t0.1 (Nat.le_add_right _ _))) (Eq.trans (r_ic d186_32 kI_0) (Eq.trans (r_bp d186_33 kB_31) (Eq.trans (r_acpI d186_35 c186_26 (o_t1.2.2.2.2.2.1) (o_t0.2.2.2.2.2.1) rfl) (q_ite (Eq.trans (r_al_n d186_38 rfl) (Eq.trans (r_getRe d186_39 f186_19 o_t1.2.1 (o_t1.2.2.2.2.2.2.1) (Nat.le_trans o_t1.1 (Nat.le_add_right _ _))) (Eq.trans (r_ic d186_42 kI_0) (Eq.trans (r_al_n d186_43 rfl) (Eq.trans (r_getRe d186_44 f186_19 o_t0.2.1 (o_t0.2.2.2.2.2.2.1) (Nat.le_trans o_t0.1 (Nat.le_add_right _ _))) (Eq.trans (r_ic d186_47 kI_0) (Eq.trans (r_bp d186_48 kB_31) (Eq.trans (r_acpI d186_50 c186_26 (o_t1.2.2.2.2.2.2.2) (o_t0.2.2.2.2.2.2.2) rfl) (q_ite (r_rv d186_53 rt186) rfl))))))))) rfl))))))))) rfl))))))))))))
theorem e187 {t0 : Nat} {t1 : Nat} : hs_C scr d 187 [.ref t0, .ref t1] h = hs_R scr d 187 0 [some (.ref t0), some (.ref t1)] [] h := by rw [hs_C, mL187]; rfl
theorem b187_0 {t0 t1 : Nat} (o_t1 : ok1 S R t1) (o_t0 : ok1 S R t0) : hs_R scr d 187 0 [some (.ref t0), some (.ref t1)] [] (S, I, L, R) = (if ¬ (0 : Int32) < 0 ∧ ¬ (0 : Int32) < 0 ∧ ¬ (8 : Int32) < 0 ∧ Int32.toNatClampNeg (0 : Int32) + Int32.toNatClampNeg (8 : Int32) ≤ 8 ∧ Int32.toNatClampNeg (0 : Int32) + Int32.toNatClampNeg (8 : Int32) ≤ 8 then (if ¬ (0 : Int32) < 0 ∧ ¬ (0 : Int32) < 0 ∧ ¬ (8 : Int32) < 0 ∧ Int32.toNatClampNeg (0 : Int32) + Int32.toNatClampNeg (8 : Int32) ≤ 8 ∧ Int32.toNatClampNeg (0 : Int32) + Int32.toNatClampNeg (8 : Int32) ≤ 8 then (if ¬ (0 : Int32) < 0 ∧ ¬ (0 : Int32) < 0 ∧ ¬ (8 : Int32) < 0 ∧ Int32.toNatClampNeg (0 : Int32) + Int32.toNatClampNeg (8 : Int32) ≤ 8 ∧ Int32.toNatClampNeg (0 : Int32) + Int32.toNatClampNeg (8 : Int32) ≤ 8 then (if ¬ (0 : Int32) < 0 ∧ ¬ (0 : Int32) < 0 ∧ ¬ (8 : Int32) < 0 ∧ Int32.toNatClampNeg (0 : Int32) + Int32.toNatClampNeg (8 : Int32) ≤ 8 ∧ Int32.toNatClampNeg (0 : Int32) + Int32.toNatClampNeg (8 : Int32) ≤ 8 then some (none, (S, (hs_cpy (hs_cpy (hs_cpy (hs_cpy (hs_u I t0 4 (I t1 4)) (t1 + 1) (t0 + 1) (Int32.toNatClampNeg (0 : Int32)) (Int32.toNatClampNeg (0 : Int32)) (Int32.toNatClampNeg (8 : Int32))) (t1 + 2) (t0 + 2) (Int32.toNatClampNeg (0 : Int32)) (Int32.toNatClampNeg (0 : Int32)) (Int32.toNatClampNeg (8 : Int32))) (t1 + 3) (t0 + 3) (Int32.toNatClampNeg (0 : Int32)) (Int32.toNatClampNeg (0 : Int32)) (Int32.toNatClampNeg (8 : Int32))) (t1 + 4) (t0 + 4) (Int32.toNatClampNeg (0 : Int32)) (Int32.toNatClampNeg (0 : Int32)) (Int32.toNatClampNeg (8 : Int32))), L, R)) else none) else none) else none) else none) := Eq.trans (r_al_n d187_0 rfl) (Eq.trans (r_al_n d187_1 rfl) (Eq.trans (r_getI d187_2 f187_24 o_t1.2.1) (Eq.trans (r_putI d187_5 f187_24 o_t0.2.1) (Eq.trans (r_al_n d187_8 rfl) (Eq.trans (r_getRe d187_9 f187_9 o_t1.2.1 (o_t1.2.2.1) (Nat.le_trans o_t1.1 (Nat.le_add_right _ _))) (Eq.trans (r_ic d187_12 kI_0) (Eq.trans (r_al_n d187_13 rfl) (Eq.trans (r_getRe d187_14 f187_9 o_t0.2.1 (o_t0.2.2.1) (Nat.le_trans o_t0.1 (Nat.le_add_right _ _))) (Eq.trans (r_ic d187_17 kI_0) (Eq.trans (r_bp d187_18 kB_8) (Eq.trans (r_acpI d187_20 c187_28 (o_t1.2.2.2.1) (o_t0.2.2.2.1) rfl) (q_ite (Eq.trans (r_al_n d187_23 rfl) (Eq.trans (r_getRe d187_24 f187_15 o_t1.2.1 (o_t1.2.2.2.2.1) (Nat.le_trans o_t1.1 (Nat.le_add_right _ _))) (Eq.trans (r_ic d187_27 kI_0) (Eq.trans (r_al_n d187_28 rfl) (Eq.trans (r_getRe d187_29 f187_15 o_t0.2.1 (o_t0.2.2.2.2.1) (Nat.le_trans o_t0.1 (Nat.le_add_right _ _))) (Eq.trans (r_ic d187_32 kI_0) (Eq.trans (r_bp d187_33 kB_8) (Eq.trans (r_acpI d187_35 c187_28 (o_t1.2.2.2.2.2.1) (o_t0.2.2.2.2.2.1) rfl) (q_ite (Eq.trans (r_al_n d187_38 rfl) (Eq.trans (r_getRe d187_39 f187_18 o_t1.2.1 (o_t1.2.2.2.2.2.2.1) (Nat.le_trans o_t1.1 (Nat.le_add_right _ _))) (Eq.trans (r_ic d187_42 kI_0) (Eq.trans (r_al_n d187_43 rfl) (Eq.trans (r_getRe d187_44 f187_18 o_t0.2.1 (o_t0.2.2.2.2.2.2.1) (Nat.le_trans o_t0.1 (Nat.le_add_right _ _))) (Eq.trans (r_ic d187_47 kI_0) (Eq.trans (r_bp d187_48 kB_8) (Eq.trans (r_acpI d187_50 c187_28 (o_t1.2.2.2.2.2.2.2.1) (o_t0.2.2.2.2.2.2.2.1) rfl) (q_ite (Eq.trans (r_al_n d187_53 rfl) (Eq.trans (r_getRe d187_54 f187_21 o_t1.2.1 (o_t1.2.2.2.2.2.2.2.2.1) (Nat.le_trans o_t1.1 (Nat.le_add_right _ _))) (Eq.trans (r_ic d187_57 kI_0) (Eq.trans (r_al_n d187_58 rfl) (Eq.trans (r_getRe d187_59 f187_21 o_t0.2.1 (o_t0.2.2.2.2.2.2.2.2.1) (Nat.le_trans o_t0.1 (Nat.le_add_right _ _))) (Eq.trans (r_ic d187_62 kI_0) (Eq.trans (r_bp d187_63 kB_8) (Eq.trans (r_acpI d187_65 c187_28 (o_t1.2.2.2.2.2.2.2.2.2) (o_t0.2.2.2.2.2.2.2.2.2) rfl) (q_ite (r_rv d187_68 rt187) rfl))))))))) rfl))))))))) rfl))))))))) rfl))))))))))))
theorem e189 {t0 : Nat} {t1 : Nat} : hs_C scr d 189 [.ref t0, .ref t1] h = hs_R scr d 189 0 [some (.ref t0), some (.ref t1)] [] h := by rw [hs_C, mL189]; rfl
theorem b189_0 {t0 t1 : Nat} (o_t1 : ok5 S R t1) (o_t0 : ok5 S R t0) : hs_R scr d 189 0 [some (.ref t0), some (.ref t1)] [] (S, I, L, R) = (if ((hs_u (hs_u I t0 5 (I t1 5)) t0 6 ((hs_u I t0 5 (I t1 5)) t1 6)) t1 7) = 0 ∨ ((hs_u (hs_u I t0 5 (I t1 5)) t0 6 ((hs_u I t0 5 (I t1 5)) t1 6)) t1 7) = 1 then (if ¬ (0 : Int32) < 0 ∧ ¬ (0 : Int32) < 0 ∧ ¬ (60 : Int32) < 0 ∧ Int32.toNatClampNeg (0 : Int32) + Int32.toNatClampNeg (60 : Int32) ≤ 60 ∧ Int32.toNatClampNeg (0 : Int32) + Int32.toNatClampNeg (60 : Int32) ≤ 60 then (if ¬ (0 : Int32) < 0 ∧ ¬ (0 : Int32) < 0 ∧ ¬ (60 : Int32) < 0 ∧ Int32.toNatClampNeg (0 : Int32) + Int32.toNatClampNeg (60 : Int32) ≤ 60 ∧ Int32.toNatClampNeg (0 : Int32) + Int32.toNatClampNeg (60 : Int32) ≤ 60 then (if ¬ (0 : Int32) < 0 ∧ ¬ (0 : Int32) < 0 ∧ ¬ (60 : Int32) < 0 ∧ Int32.toNatClampNeg (0 : Int32) + Int32.toNatClampNeg (60 : Int32) ≤ 60 ∧ Int32.toNatClampNeg (0 : Int32) + Int32.toNatClampNeg (60 : Int32) ≤ 60 then (if ¬ (0 : Int32) < 0 ∧ ¬ (0 : Int32) < 0 ∧ ¬ (60 : Int32) < 0 ∧ Int32.toNatClampNeg (0 : Int32) + Int32.toNatClampNeg (60 : Int32) ≤ 60 ∧ Int32.toNatClampNeg (0 : Int32) + Int32.toNatClampNeg (60 : Int32) ≤ 60 then (if ¬ (0 : Int32) < 0 ∧ ¬ (0 : Int32) < 0 ∧ ¬ (60 : Int32) < 0 ∧ Int32.toNatClampNeg (0 : Int32) + Int32.toNatClampNeg (60 : Int32) ≤ 60 ∧ Int32.toNatClampNeg (0 : Int32) + Int32.toNatClampNeg (60 : Int32) ≤ 60 then some (none, (S, (hs_cpy (hs_cpy (hs_cpy (hs_cpy (hs_cpy (hs_u (hs_u (hs_u I t0 5 (I t1 5)) t0 6 ((hs_u I t0 5 (I t1 5)) t1 6)) t0 7 ((hs_u (hs_u I t0 5 (I t1 5)) t0 6 ((hs_u I t0 5 (I t1 5)) t1 6)) t1 7)) (t1 + 1) (t0 + 1) (Int32.toNatClampNeg (0 : Int32)) (Int32.toNatClampNeg (0 : Int32)) (Int32.toNatClampNeg (60 : Int32))) (t1 + 2) (t0 + 2) (Int32.toNatClampNeg (0 : Int32)) (Int32.toNatClampNeg (0 : Int32)) (Int32.toNatClampNeg (60 : Int32))) (t1 + 3) (t0 + 3) (Int32.toNatClampNeg (0 : Int32)) (Int32.toNatClampNeg (0 : Int32)) (Int32.toNatClampNeg (60 : Int32))) (t1 + 4) (t0 + 4) (Int32.toNatClampNeg (0 : Int32)) (Int32.toNatClampNeg (0 : Int32)) (Int32.toNatClampNeg (60 : Int32))) (t1 + 5) (t0 + 5) (Int32.toNatClampNeg (0 : Int32)) (Int32.toNatClampNeg (0 : Int32)) (Int32.toNatClampNeg (60 : Int32))), L, R)) else none) else none) else none) else none) else none) else none) := Eq.trans (r_al_n d189_0 rfl) (Eq.trans (r_al_n d189_1 rfl) (Eq.trans (r_getI d189_2 f189_27 o_t1.2.1) (Eq.trans (r_putI d189_5 f189_27 o_t0.2.1) (Eq.trans (r_al_n d189_8 rfl) (Eq.trans (r_al_n d189_9 rfl) (Eq.trans (r_getI d189_10 f189_31 o_t1.2.1) (Eq.trans (r_putI d189_13 f189_31 o_t0.2.1) (Eq.trans (r_al_n d189_16 rfl) (Eq.trans (r_al_n d189_17 rfl) (Eq.trans (r_getZ d189_18 f189_34 o_t1.2.1) (Eq.trans (r_putZ d189_21 f189_34 o_t0.2.1) (q_ite (Eq.trans (r_al_n d189_24 rfl) (Eq.trans (r_getRe d189_25 f189_11 o_t1.2.1 (o_t1.2.2.1) (Nat.le_trans o_t1.1 (Nat.le_add_right _ _))) (Eq.trans (r_ic d189_28 kI_0) (Eq.trans (r_al_n d189_29 rfl) (Eq.trans (r_getRe d189_30 f189_11 o_t0.2.1 (o_t0.2.2.1) (Nat.le_trans o_t0.1 (Nat.le_add_right _ _))) (Eq.trans (r_ic d189_33 kI_0) (Eq.trans (r_bp d189_34 kB_60) (Eq.trans (r_acpI d189_36 c189_38 (o_t1.2.2.2.1) (o_t0.2.2.2.1) rfl) (q_ite (Eq.trans (r_al_n d189_39 rfl) (Eq.trans (r_getRe d189_40 f189_15 o_t1.2.1 (o_t1.2.2.2.2.1) (Nat.le_trans o_t1.1 (Nat.le_add_right _ _))) (Eq.trans (r_ic d189_43 kI_0) (Eq.trans (r_al_n d189_44 rfl) (Eq.trans (r_getRe d189_45 f189_15 o_t0.2.1 (o_t0.2.2.2.2.1) (Nat.le_trans o_t0.1 (Nat.le_add_right _ _))) (Eq.trans (r_ic d189_48 kI_0) (Eq.trans (r_bp d189_49 kB_60) (Eq.trans (r_acpI d189_51 c189_38 (o_t1.2.2.2.2.2.1) (o_t0.2.2.2.2.2.1) rfl) (q_ite (Eq.trans (r_al_n d189_54 rfl) (Eq.trans (r_getRe d189_55 f189_18 o_t1.2.1 (o_t1.2.2.2.2.2.2.1) (Nat.le_trans o_t1.1 (Nat.le_add_right _ _))) (Eq.trans (r_ic d189_58 kI_0) (Eq.trans (r_al_n d189_59 rfl) (Eq.trans (r_getRe d189_60 f189_18 o_t0.2.1 (o_t0.2.2.2.2.2.2.1) (Nat.le_trans o_t0.1 (Nat.le_add_right _ _))) (Eq.trans (r_ic d189_63 kI_0) (Eq.trans (r_bp d189_64 kB_60) (Eq.trans (r_acpI d189_66 c189_38 (o_t1.2.2.2.2.2.2.2.1) (o_t0.2.2.2.2.2.2.2.1) rfl) (q_ite (Eq.trans (r_al_n d189_69 rfl) (Eq.trans (r_getRe d189_70 f189_21 o_t1.2.1 (o_t1.2.2.2.2.2.2.2.2.1) (Nat.le_trans o_t1.1 (Nat.le_add_right _ _))) (Eq.trans (r_ic d189_73 kI_0) (Eq.trans (r_al_n d189_74 rfl) (Eq.trans (r_getRe d189_75 f189_21 o_t0.2.1 (o_t0.2.2.2.2.2.2.2.2.1) (Nat.le_trans o_t0.1 (Nat.le_add_right _ _))) (Eq.trans (r_ic d189_78 kI_0) (Eq.trans (r_bp d189_79 kB_60) (Eq.trans (r_acpI d189_81 c189_38 (o_t1.2.2.2.2.2.2.2.2.2.1) (o_t0.2.2.2.2.2.2.2.2.2.1) rfl) (q_ite (Eq.trans (r_al_n d189_84 rfl) (Eq.trans (r_getRe d189_85 f189_24 o_t1.2.1 (o_t1.2.2.2.2.2.2.2.2.2.2.1) (Nat.le_trans o_t1.1 (Nat.le_add_right _ _))) (Eq.trans (r_ic d189_88 kI_0) (Eq.trans (r_al_n d189_89 rfl) (Eq.trans (r_getRe d189_90 f189_24 o_t0.2.1 (o_t0.2.2.2.2.2.2.2.2.2.2.1) (Nat.le_trans o_t0.1 (Nat.le_add_right _ _))) (Eq.trans (r_ic d189_93 kI_0) (Eq.trans (r_bp d189_94 kB_60) (Eq.trans (r_acpI d189_96 c189_38 (o_t1.2.2.2.2.2.2.2.2.2.2.2) (o_t0.2.2.2.2.2.2.2.2.2.2.2) rfl) (q_ite (r_rv d189_99 rt189) rfl))))))))) rfl))))))))) rfl))))))))) rfl))))))))) rfl))))))))) rfl))))))))))))
theorem e139 {x0 : Int32} : hs_C scr d 139 [.int x0] h = hs_R scr d 139 0 [some (.int x0)] [] h := by rw [hs_C, mL139]; rfl
theorem b139_0 {x0 : Int32}  : hs_R scr d 139 0 [some (.int x0)] [] (S, I, L, R) = hs_R scr d 139 10 [some (.int (x0 - ((Int32.toUInt32 x0 >>> (Int32.toUInt32 1 &&& Int32.toUInt32 31)).toInt32 &&& 1431655765)))] [] (S, I, L, R) := Eq.trans (r_il_n d139_0 rfl) (Eq.trans (r_il_n d139_1 rfl) (Eq.trans (r_ic d139_2 kI_1) (Eq.trans (r_iushr d139_3) (Eq.trans (r_ldcw d139_4 ci139_265) (Eq.trans (r_iand d139_7) (Eq.trans (r_isub d139_8) (Eq.trans (r_is_n (loc' := [some (.int (x0 - ((Int32.toUInt32 x0 >>> (Int32.toUInt32 1 &&& Int32.toUInt32 31)).toInt32 &&& 1431655765)))]) d139_9 rfl) (rfl))))))))
theorem b139_10 {x0 : Int32}  : hs_R scr d 139 10 [some (.int x0)] [] (S, I, L, R) = hs_R scr d 139 24 [some (.int ((x0 &&& 858993459) + ((Int32.toUInt32 x0 >>> (Int32.toUInt32 2 &&& Int32.toUInt32 31)).toInt32 &&& 858993459)))] [] (S, I, L, R) := Eq.trans (r_il_n d139_10 rfl) (Eq.trans (r_ldcw d139_11 ci139_266) (Eq.trans (r_iand d139_14) (Eq.trans (r_il_n d139_15 rfl) (Eq.trans (r_ic d139_16 kI_2) (Eq.trans (r_iushr d139_17) (Eq.trans (r_ldcw d139_18 ci139_266) (Eq.trans (r_iand d139_21) (Eq.trans (r_iadd d139_22) (Eq.trans (r_is_n (loc' := [some (.int ((x0 &&& 858993459) + ((Int32.toUInt32 x0 >>> (Int32.toUInt32 2 &&& Int32.toUInt32 31)).toInt32 &&& 858993459)))]) d139_23 rfl) (rfl))))))))))
theorem b139_24 {x0 : Int32}  : hs_R scr d 139 24 [some (.int x0)] [] (S, I, L, R) = hs_R scr d 139 34 [some (.int ((x0 + (Int32.toUInt32 x0 >>> (Int32.toUInt32 4 &&& Int32.toUInt32 31)).toInt32) &&& 252645135))] [] (S, I, L, R) := Eq.trans (r_il_n d139_24 rfl) (Eq.trans (r_il_n d139_25 rfl) (Eq.trans (r_ic d139_26 kI_4) (Eq.trans (r_iushr d139_27) (Eq.trans (r_iadd d139_28) (Eq.trans (r_ldcw d139_29 ci139_267) (Eq.trans (r_iand d139_32) (Eq.trans (r_is_n (loc' := [some (.int ((x0 + (Int32.toUInt32 x0 >>> (Int32.toUInt32 4 &&& Int32.toUInt32 31)).toInt32) &&& 252645135))]) d139_33 rfl) (rfl))))))))
theorem b139_34 {x0 : Int32}  : hs_R scr d 139 34 [some (.int x0)] [] (S, I, L, R) = hs_R scr d 139 41 [some (.int (x0 + (Int32.toUInt32 x0 >>> (Int32.toUInt32 8 &&& Int32.toUInt32 31)).toInt32))] [] (S, I, L, R) := Eq.trans (r_il_n d139_34 rfl) (Eq.trans (r_il_n d139_35 rfl) (Eq.trans (r_bp d139_36 kB_8) (Eq.trans (r_iushr d139_38) (Eq.trans (r_iadd d139_39) (Eq.trans (r_is_n (loc' := [some (.int (x0 + (Int32.toUInt32 x0 >>> (Int32.toUInt32 8 &&& Int32.toUInt32 31)).toInt32))]) d139_40 rfl) (rfl))))))
theorem b139_41 {x0 : Int32}  : hs_R scr d 139 41 [some (.int x0)] [] (S, I, L, R) = hs_R scr d 139 48 [some (.int (x0 + (Int32.toUInt32 x0 >>> (Int32.toUInt32 16 &&& Int32.toUInt32 31)).toInt32))] [] (S, I, L, R) := Eq.trans (r_il_n d139_41 rfl) (Eq.trans (r_il_n d139_42 rfl) (Eq.trans (r_bp d139_43 kB_16) (Eq.trans (r_iushr d139_45) (Eq.trans (r_iadd d139_46) (Eq.trans (r_is_n (loc' := [some (.int (x0 + (Int32.toUInt32 x0 >>> (Int32.toUInt32 16 &&& Int32.toUInt32 31)).toInt32))]) d139_47 rfl) (rfl))))))
theorem b139_48 {x0 : Int32}  : hs_R scr d 139 48 [some (.int x0)] [] (S, I, L, R) = some (some (.int (x0 &&& 63)), (S, I, L, R)) := Eq.trans (r_il_n d139_48 rfl) (Eq.trans (r_bp d139_49 kB_63) (Eq.trans (r_iand d139_51) (r_ri d139_52 rt139)))
end BB

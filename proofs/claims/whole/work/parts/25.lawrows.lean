theorem c360_100 : hs_cal (hs_own 360) 100 = some (0, 99) := by decide +kernel
theorem c360_103 : hs_cal (hs_own 360) 103 = some (0, 283) := by decide +kernel
theorem c360_104 : hs_cal (hs_own 360) 104 = some (0, 104) := by decide +kernel
theorem c360_108 : hs_cal (hs_own 360) 108 = some (0, 285) := by decide +kernel
theorem c360_109 : hs_cal (hs_own 360) 109 = some (0, 106) := by decide +kernel
theorem c360_112 : hs_cal (hs_own 360) 112 = some (0, 287) := by decide +kernel
theorem c360_113 : hs_cal (hs_own 360) 113 = some (0, 108) := by decide +kernel
theorem c360_116 : hs_cal (hs_own 360) 116 = some (0, 288) := by decide +kernel
theorem c360_117 : hs_cal (hs_own 360) 117 = some (0, 111) := by decide +kernel
theorem c360_120 : hs_cal (hs_own 360) 120 = some (0, 291) := by decide +kernel
theorem c360_121 : hs_cal (hs_own 360) 121 = some (0, 113) := by decide +kernel
theorem c360_124 : hs_cal (hs_own 360) 124 = some (0, 293) := by decide +kernel
theorem c360_125 : hs_cal (hs_own 360) 125 = some (0, 115) := by decide +kernel
theorem c360_129 : hs_cal (hs_own 360) 129 = some (0, 295) := by decide +kernel
theorem c360_13 : hs_cal (hs_own 360) 13 = some (0, 13) := by decide +kernel
theorem c360_130 : hs_cal (hs_own 360) 130 = some (0, 116) := by decide +kernel
theorem c360_133 : hs_cal (hs_own 360) 133 = some (0, 296) := by decide +kernel
theorem c360_134 : hs_cal (hs_own 360) 134 = some (0, 117) := by decide +kernel
theorem c360_137 : hs_cal (hs_own 360) 137 = some (0, 297) := by decide +kernel
theorem c360_138 : hs_cal (hs_own 360) 138 = some (0, 118) := by decide +kernel
theorem c360_141 : hs_cal (hs_own 360) 141 = some (0, 298) := by decide +kernel
theorem c360_142 : hs_cal (hs_own 360) 142 = some (0, 119) := by decide +kernel
theorem c360_145 : hs_cal (hs_own 360) 145 = some (0, 299) := by decide +kernel
theorem c360_146 : hs_cal (hs_own 360) 146 = some (0, 120) := by decide +kernel
theorem c360_149 : hs_cal (hs_own 360) 149 = some (0, 300) := by decide +kernel
theorem c360_150 : hs_cal (hs_own 360) 150 = some (0, 122) := by decide +kernel
theorem c360_153 : hs_cal (hs_own 360) 153 = some (0, 303) := by decide +kernel
theorem c360_154 : hs_cal (hs_own 360) 154 = some (0, 123) := by decide +kernel
theorem c360_157 : hs_cal (hs_own 360) 157 = some (0, 304) := by decide +kernel
theorem c360_158 : hs_cal (hs_own 360) 158 = some (0, 124) := by decide +kernel
theorem c360_161 : hs_cal (hs_own 360) 161 = some (0, 305) := by decide +kernel
theorem c360_162 : hs_cal (hs_own 360) 162 = some (0, 125) := by decide +kernel
theorem c360_165 : hs_cal (hs_own 360) 165 = some (0, 308) := by decide +kernel
theorem c360_166 : hs_cal (hs_own 360) 166 = some (0, 127) := by decide +kernel
theorem c360_169 : hs_cal (hs_own 360) 169 = some (0, 309) := by decide +kernel
theorem c360_17 : hs_cal (hs_own 360) 17 = some (0, 193) := by decide +kernel
theorem c360_170 : hs_cal (hs_own 360) 170 = some (0, 130) := by decide +kernel
theorem c360_173 : hs_cal (hs_own 360) 173 = some (0, 312) := by decide +kernel
theorem c360_174 : hs_cal (hs_own 360) 174 = some (0, 131) := by decide +kernel
theorem c360_177 : hs_cal (hs_own 360) 177 = some (0, 313) := by decide +kernel
theorem c360_178 : hs_cal (hs_own 360) 178 = some (0, 134) := by decide +kernel
theorem c360_18 : hs_cal (hs_own 360) 18 = some (0, 14) := by decide +kernel
theorem c360_181 : hs_cal (hs_own 360) 181 = some (0, 316) := by decide +kernel
theorem c360_182 : hs_cal (hs_own 360) 182 = some (0, 135) := by decide +kernel
theorem c360_185 : hs_cal (hs_own 360) 185 = some (0, 317) := by decide +kernel
theorem c360_186 : hs_cal (hs_own 360) 186 = some (0, 136) := by decide +kernel
theorem c360_189 : hs_cal (hs_own 360) 189 = some (0, 318) := by decide +kernel
theorem c360_190 : hs_cal (hs_own 360) 190 = some (0, 138) := by decide +kernel
theorem c360_193 : hs_cal (hs_own 360) 193 = some (0, 320) := by decide +kernel
theorem c360_194 : hs_cal (hs_own 360) 194 = some (0, 140) := by decide +kernel
theorem c360_197 : hs_cal (hs_own 360) 197 = some (0, 322) := by decide +kernel
theorem c360_198 : hs_cal (hs_own 360) 198 = some (0, 141) := by decide +kernel
theorem c360_201 : hs_cal (hs_own 360) 201 = some (0, 323) := by decide +kernel
theorem c360_202 : hs_cal (hs_own 360) 202 = some (0, 142) := by decide +kernel
theorem c360_205 : hs_cal (hs_own 360) 205 = some (0, 324) := by decide +kernel
theorem c360_206 : hs_cal (hs_own 360) 206 = some (0, 145) := by decide +kernel
theorem c360_209 : hs_cal (hs_own 360) 209 = some (0, 327) := by decide +kernel
theorem c360_210 : hs_cal (hs_own 360) 210 = some (0, 146) := by decide +kernel
theorem c360_213 : hs_cal (hs_own 360) 213 = some (0, 328) := by decide +kernel
theorem c360_214 : hs_cal (hs_own 360) 214 = some (0, 148) := by decide +kernel
theorem c360_217 : hs_cal (hs_own 360) 217 = some (0, 331) := by decide +kernel
theorem c360_218 : hs_cal (hs_own 360) 218 = some (0, 149) := by decide +kernel
theorem c360_22 : hs_cal (hs_own 360) 22 = some (0, 194) := by decide +kernel
theorem c360_221 : hs_cal (hs_own 360) 221 = some (0, 332) := by decide +kernel
theorem c360_222 : hs_cal (hs_own 360) 222 = some (0, 152) := by decide +kernel
theorem c360_225 : hs_cal (hs_own 360) 225 = some (0, 335) := by decide +kernel
theorem c360_226 : hs_cal (hs_own 360) 226 = some (0, 154) := by decide +kernel
theorem c360_229 : hs_cal (hs_own 360) 229 = some (0, 337) := by decide +kernel
theorem c360_23 : hs_cal (hs_own 360) 23 = some (0, 15) := by decide +kernel
theorem c360_230 : hs_cal (hs_own 360) 230 = some (0, 155) := by decide +kernel
theorem c360_233 : hs_cal (hs_own 360) 233 = some (0, 338) := by decide +kernel
theorem c360_234 : hs_cal (hs_own 360) 234 = some (0, 156) := by decide +kernel
theorem c360_237 : hs_cal (hs_own 360) 237 = some (0, 340) := by decide +kernel
theorem c360_238 : hs_cal (hs_own 360) 238 = some (0, 163) := by decide +kernel
theorem c360_241 : hs_cal (hs_own 360) 241 = some (0, 342) := by decide +kernel
theorem c360_242 : hs_cal (hs_own 360) 242 = some (0, 165) := by decide +kernel
theorem c360_245 : hs_cal (hs_own 360) 245 = some (0, 343) := by decide +kernel
theorem c360_246 : hs_cal (hs_own 360) 246 = some (0, 170) := by decide +kernel
theorem c360_250 : hs_cal (hs_own 360) 250 = some (0, 345) := by decide +kernel
theorem c360_251 : hs_cal (hs_own 360) 251 = some (0, 171) := by decide +kernel
theorem c360_254 : hs_cal (hs_own 360) 254 = some (0, 346) := by decide +kernel
theorem c360_255 : hs_cal (hs_own 360) 255 = some (0, 182) := by decide +kernel
theorem c360_258 : hs_cal (hs_own 360) 258 = some (0, 356) := by decide +kernel
theorem c360_259 : hs_cal (hs_own 360) 259 = some (0, 184) := by decide +kernel
theorem c360_26 : hs_cal (hs_own 360) 26 = some (0, 195) := by decide +kernel
theorem c360_262 : hs_cal (hs_own 360) 262 = some (0, 357) := by decide +kernel
theorem c360_263 : hs_cal (hs_own 360) 263 = some (0, 188) := by decide +kernel
theorem c360_266 : hs_cal (hs_own 360) 266 = some (0, 358) := by decide +kernel
theorem c360_267 : hs_cal (hs_own 360) 267 = some (0, 190) := by decide +kernel
theorem c360_27 : hs_cal (hs_own 360) 27 = some (0, 16) := by decide +kernel
theorem c360_270 : hs_cal (hs_own 360) 270 = some (0, 359) := by decide +kernel
theorem c360_31 : hs_cal (hs_own 360) 31 = some (0, 196) := by decide +kernel
theorem c360_34 : hs_cal (hs_own 360) 34 = some (0, 21) := by decide +kernel
theorem c360_38 : hs_cal (hs_own 360) 38 = some (0, 198) := by decide +kernel
theorem c360_39 : hs_cal (hs_own 360) 39 = some (0, 27) := by decide +kernel
theorem c360_43 : hs_cal (hs_own 360) 43 = some (0, 202) := by decide +kernel
theorem c360_44 : hs_cal (hs_own 360) 44 = some (0, 29) := by decide +kernel
theorem c360_48 : hs_cal (hs_own 360) 48 = some (0, 203) := by decide +kernel
theorem c360_49 : hs_cal (hs_own 360) 49 = some (0, 31) := by decide +kernel
theorem c360_53 : hs_cal (hs_own 360) 53 = some (0, 204) := by decide +kernel
theorem c360_54 : hs_cal (hs_own 360) 54 = some (0, 34) := by decide +kernel
theorem c360_58 : hs_cal (hs_own 360) 58 = some (0, 207) := by decide +kernel
theorem c360_59 : hs_cal (hs_own 360) 59 = some (0, 69) := by decide +kernel
theorem c360_62 : hs_cal (hs_own 360) 62 = some (0, 260) := by decide +kernel
theorem c360_63 : hs_cal (hs_own 360) 63 = some (0, 79) := by decide +kernel
theorem c360_66 : hs_cal (hs_own 360) 66 = some (0, 206) := by decide +kernel
theorem c360_67 : hs_cal (hs_own 360) 67 = some (0, 80) := by decide +kernel
theorem c360_70 : hs_cal (hs_own 360) 70 = some (0, 264) := by decide +kernel
theorem c360_71 : hs_cal (hs_own 360) 71 = some (0, 88) := by decide +kernel
theorem c360_75 : hs_cal (hs_own 360) 75 = some (0, 271) := by decide +kernel
theorem c360_76 : hs_cal (hs_own 360) 76 = some (0, 90) := by decide +kernel
theorem c360_79 : hs_cal (hs_own 360) 79 = some (0, 273) := by decide +kernel
theorem c360_80 : hs_cal (hs_own 360) 80 = some (0, 92) := by decide +kernel
theorem c360_83 : hs_cal (hs_own 360) 83 = some (0, 275) := by decide +kernel
theorem c360_84 : hs_cal (hs_own 360) 84 = some (0, 93) := by decide +kernel
theorem c360_87 : hs_cal (hs_own 360) 87 = some (0, 276) := by decide +kernel
theorem c360_88 : hs_cal (hs_own 360) 88 = some (0, 94) := by decide +kernel
theorem c360_91 : hs_cal (hs_own 360) 91 = some (0, 277) := by decide +kernel
theorem c360_92 : hs_cal (hs_own 360) 92 = some (0, 97) := by decide +kernel
theorem c360_95 : hs_cal (hs_own 360) 95 = some (0, 280) := by decide +kernel
theorem c360_96 : hs_cal (hs_own 360) 96 = some (0, 98) := by decide +kernel
theorem c360_99 : hs_cal (hs_own 360) 99 = some (0, 281) := by decide +kernel
theorem cl360_32 : hs_kL (hs_own 360) 32 = some 4294967295 := by decide +kernel
theorem d360_1001 : decode (hs_code 360) 1001 = .ok (.aload_n 2, 1) := by decide +kernel
theorem d360_1002 : decode (hs_code 360) 1002 = .ok (.aload_n 0, 1) := by decide +kernel
theorem d360_1003 : decode (hs_code 360) 1003 = .ok (.iload_n 3, 1) := by decide +kernel
theorem d360_1004 : decode (hs_code 360) 1004 = .ok (.iconst 1, 1) := by decide +kernel
theorem d360_1005 : decode (hs_code 360) 1005 = .ok (.iadd, 1) := by decide +kernel
theorem d360_1006 : decode (hs_code 360) 1006 = .ok (.iaload, 1) := by decide +kernel
theorem d360_1007 : decode (hs_code 360) 1007 = .ok (.aload_n 0, 1) := by decide +kernel
theorem d360_1008 : decode (hs_code 360) 1008 = .ok (.iload_n 3, 1) := by decide +kernel
theorem d360_1009 : decode (hs_code 360) 1009 = .ok (.iconst 2, 1) := by decide +kernel
theorem d360_1010 : decode (hs_code 360) 1010 = .ok (.iadd, 1) := by decide +kernel
theorem d360_1011 : decode (hs_code 360) 1011 = .ok (.iaload, 1) := by decide +kernel
theorem d360_1012 : decode (hs_code 360) 1012 = .ok (.invokevirtual 116, 3) := by decide +kernel
theorem d360_1015 : decode (hs_code 360) 1015 = .ok (.if_icmp .eq 939, 3) := by decide +kernel
theorem d360_1018 : decode (hs_code 360) 1018 = .ok (.iconst 0, 1) := by decide +kernel
theorem d360_1019 : decode (hs_code 360) 1019 = .ok (.ireturn, 1) := by decide +kernel
theorem d360_1020 : decode (hs_code 360) 1020 = .ok (.aload_n 1, 1) := by decide +kernel
theorem d360_1021 : decode (hs_code 360) 1021 = .ok (.aload_n 0, 1) := by decide +kernel
theorem d360_1022 : decode (hs_code 360) 1022 = .ok (.iload_n 3, 1) := by decide +kernel
theorem d360_1023 : decode (hs_code 360) 1023 = .ok (.iconst 1, 1) := by decide +kernel
theorem d360_1024 : decode (hs_code 360) 1024 = .ok (.iadd, 1) := by decide +kernel
theorem d360_1025 : decode (hs_code 360) 1025 = .ok (.iaload, 1) := by decide +kernel
theorem d360_1026 : decode (hs_code 360) 1026 = .ok (.aload_n 0, 1) := by decide +kernel
theorem d360_1027 : decode (hs_code 360) 1027 = .ok (.iload_n 3, 1) := by decide +kernel
theorem d360_1028 : decode (hs_code 360) 1028 = .ok (.iconst 2, 1) := by decide +kernel
theorem d360_1029 : decode (hs_code 360) 1029 = .ok (.iadd, 1) := by decide +kernel
theorem d360_1030 : decode (hs_code 360) 1030 = .ok (.iaload, 1) := by decide +kernel
theorem d360_1031 : decode (hs_code 360) 1031 = .ok (.invokevirtual 117, 3) := by decide +kernel
theorem d360_1034 : decode (hs_code 360) 1034 = .ok (.aload_n 2, 1) := by decide +kernel
theorem d360_1035 : decode (hs_code 360) 1035 = .ok (.aload_n 0, 1) := by decide +kernel
theorem d360_1036 : decode (hs_code 360) 1036 = .ok (.iload_n 3, 1) := by decide +kernel
theorem d360_1037 : decode (hs_code 360) 1037 = .ok (.iconst 1, 1) := by decide +kernel
theorem d360_1038 : decode (hs_code 360) 1038 = .ok (.iadd, 1) := by decide +kernel
theorem d360_1039 : decode (hs_code 360) 1039 = .ok (.iaload, 1) := by decide +kernel
theorem d360_1040 : decode (hs_code 360) 1040 = .ok (.aload_n 0, 1) := by decide +kernel
theorem d360_1041 : decode (hs_code 360) 1041 = .ok (.iload_n 3, 1) := by decide +kernel
theorem d360_1042 : decode (hs_code 360) 1042 = .ok (.iconst 2, 1) := by decide +kernel
theorem d360_1043 : decode (hs_code 360) 1043 = .ok (.iadd, 1) := by decide +kernel
theorem d360_1044 : decode (hs_code 360) 1044 = .ok (.iaload, 1) := by decide +kernel
theorem d360_1045 : decode (hs_code 360) 1045 = .ok (.invokevirtual 120, 3) := by decide +kernel
theorem d360_1048 : decode (hs_code 360) 1048 = .ok (.if_icmp .eq 906, 3) := by decide +kernel
theorem d360_1051 : decode (hs_code 360) 1051 = .ok (.iconst 0, 1) := by decide +kernel
theorem d360_1052 : decode (hs_code 360) 1052 = .ok (.ireturn, 1) := by decide +kernel
theorem d360_1053 : decode (hs_code 360) 1053 = .ok (.aload_n 1, 1) := by decide +kernel
theorem d360_1054 : decode (hs_code 360) 1054 = .ok (.invokevirtual 121, 3) := by decide +kernel
theorem d360_1057 : decode (hs_code 360) 1057 = .ok (.aload_n 2, 1) := by decide +kernel
theorem d360_1058 : decode (hs_code 360) 1058 = .ok (.invokevirtual 124, 3) := by decide +kernel
theorem d360_1061 : decode (hs_code 360) 1061 = .ok (.if_icmp .eq 893, 3) := by decide +kernel
theorem d360_1064 : decode (hs_code 360) 1064 = .ok (.iconst 0, 1) := by decide +kernel
theorem d360_1065 : decode (hs_code 360) 1065 = .ok (.ireturn, 1) := by decide +kernel
theorem d360_1066 : decode (hs_code 360) 1066 = .ok (.aload_n 1, 1) := by decide +kernel
theorem d360_1067 : decode (hs_code 360) 1067 = .ok (.aload_n 0, 1) := by decide +kernel
theorem d360_1068 : decode (hs_code 360) 1068 = .ok (.iload_n 3, 1) := by decide +kernel
theorem d360_1069 : decode (hs_code 360) 1069 = .ok (.iconst 1, 1) := by decide +kernel
theorem d360_1070 : decode (hs_code 360) 1070 = .ok (.iadd, 1) := by decide +kernel
theorem d360_1071 : decode (hs_code 360) 1071 = .ok (.iaload, 1) := by decide +kernel
theorem d360_1072 : decode (hs_code 360) 1072 = .ok (.aload_n 0, 1) := by decide +kernel
theorem d360_1073 : decode (hs_code 360) 1073 = .ok (.iload_n 3, 1) := by decide +kernel
theorem d360_1074 : decode (hs_code 360) 1074 = .ok (.iconst 2, 1) := by decide +kernel
theorem d360_1075 : decode (hs_code 360) 1075 = .ok (.iadd, 1) := by decide +kernel
theorem d360_1076 : decode (hs_code 360) 1076 = .ok (.iaload, 1) := by decide +kernel
theorem d360_1077 : decode (hs_code 360) 1077 = .ok (.invokevirtual 125, 3) := by decide +kernel
theorem d360_1080 : decode (hs_code 360) 1080 = .ok (.aload_n 2, 1) := by decide +kernel
theorem d360_1081 : decode (hs_code 360) 1081 = .ok (.aload_n 0, 1) := by decide +kernel
theorem d360_1082 : decode (hs_code 360) 1082 = .ok (.iload_n 3, 1) := by decide +kernel
theorem d360_1083 : decode (hs_code 360) 1083 = .ok (.iconst 1, 1) := by decide +kernel
theorem d360_1084 : decode (hs_code 360) 1084 = .ok (.iadd, 1) := by decide +kernel
theorem d360_1085 : decode (hs_code 360) 1085 = .ok (.iaload, 1) := by decide +kernel
theorem d360_1086 : decode (hs_code 360) 1086 = .ok (.aload_n 0, 1) := by decide +kernel
theorem d360_1087 : decode (hs_code 360) 1087 = .ok (.iload_n 3, 1) := by decide +kernel
theorem d360_1088 : decode (hs_code 360) 1088 = .ok (.iconst 2, 1) := by decide +kernel
theorem d360_1089 : decode (hs_code 360) 1089 = .ok (.iadd, 1) := by decide +kernel
theorem d360_1090 : decode (hs_code 360) 1090 = .ok (.iaload, 1) := by decide +kernel
theorem d360_1091 : decode (hs_code 360) 1091 = .ok (.invokevirtual 129, 3) := by decide +kernel
theorem d360_1094 : decode (hs_code 360) 1094 = .ok (.if_icmp .eq 860, 3) := by decide +kernel
theorem d360_1097 : decode (hs_code 360) 1097 = .ok (.iconst 0, 1) := by decide +kernel
theorem d360_1098 : decode (hs_code 360) 1098 = .ok (.ireturn, 1) := by decide +kernel
theorem d360_1099 : decode (hs_code 360) 1099 = .ok (.aload_n 1, 1) := by decide +kernel
theorem d360_1100 : decode (hs_code 360) 1100 = .ok (.aload_n 0, 1) := by decide +kernel
theorem d360_1101 : decode (hs_code 360) 1101 = .ok (.iload_n 3, 1) := by decide +kernel
theorem d360_1102 : decode (hs_code 360) 1102 = .ok (.iconst 1, 1) := by decide +kernel
theorem d360_1103 : decode (hs_code 360) 1103 = .ok (.iadd, 1) := by decide +kernel
theorem d360_1104 : decode (hs_code 360) 1104 = .ok (.iaload, 1) := by decide +kernel
theorem d360_1105 : decode (hs_code 360) 1105 = .ok (.aload_n 0, 1) := by decide +kernel
theorem d360_1106 : decode (hs_code 360) 1106 = .ok (.iload_n 3, 1) := by decide +kernel
theorem d360_1107 : decode (hs_code 360) 1107 = .ok (.iconst 2, 1) := by decide +kernel
theorem d360_1108 : decode (hs_code 360) 1108 = .ok (.iadd, 1) := by decide +kernel
theorem d360_1109 : decode (hs_code 360) 1109 = .ok (.iaload, 1) := by decide +kernel
theorem d360_1110 : decode (hs_code 360) 1110 = .ok (.invokevirtual 130, 3) := by decide +kernel
theorem d360_1113 : decode (hs_code 360) 1113 = .ok (.aload_n 2, 1) := by decide +kernel
theorem d360_1114 : decode (hs_code 360) 1114 = .ok (.aload_n 0, 1) := by decide +kernel
theorem d360_1115 : decode (hs_code 360) 1115 = .ok (.iload_n 3, 1) := by decide +kernel
theorem d360_1116 : decode (hs_code 360) 1116 = .ok (.iconst 1, 1) := by decide +kernel
theorem d360_1117 : decode (hs_code 360) 1117 = .ok (.iadd, 1) := by decide +kernel
theorem d360_1118 : decode (hs_code 360) 1118 = .ok (.iaload, 1) := by decide +kernel
theorem d360_1119 : decode (hs_code 360) 1119 = .ok (.aload_n 0, 1) := by decide +kernel
theorem d360_1120 : decode (hs_code 360) 1120 = .ok (.iload_n 3, 1) := by decide +kernel
theorem d360_1121 : decode (hs_code 360) 1121 = .ok (.iconst 2, 1) := by decide +kernel
theorem d360_1122 : decode (hs_code 360) 1122 = .ok (.iadd, 1) := by decide +kernel
theorem d360_1123 : decode (hs_code 360) 1123 = .ok (.iaload, 1) := by decide +kernel
theorem d360_1124 : decode (hs_code 360) 1124 = .ok (.invokevirtual 133, 3) := by decide +kernel
theorem d360_1127 : decode (hs_code 360) 1127 = .ok (.if_icmp .eq 827, 3) := by decide +kernel
theorem d360_1130 : decode (hs_code 360) 1130 = .ok (.iconst 0, 1) := by decide +kernel
theorem d360_1131 : decode (hs_code 360) 1131 = .ok (.ireturn, 1) := by decide +kernel
theorem d360_1132 : decode (hs_code 360) 1132 = .ok (.aload_n 1, 1) := by decide +kernel
theorem d360_1133 : decode (hs_code 360) 1133 = .ok (.aload_n 0, 1) := by decide +kernel
theorem d360_1134 : decode (hs_code 360) 1134 = .ok (.iload_n 3, 1) := by decide +kernel
theorem d360_1135 : decode (hs_code 360) 1135 = .ok (.iconst 1, 1) := by decide +kernel
theorem d360_1136 : decode (hs_code 360) 1136 = .ok (.iadd, 1) := by decide +kernel
theorem d360_1137 : decode (hs_code 360) 1137 = .ok (.iaload, 1) := by decide +kernel
theorem d360_1138 : decode (hs_code 360) 1138 = .ok (.aload_n 0, 1) := by decide +kernel
theorem d360_1139 : decode (hs_code 360) 1139 = .ok (.iload_n 3, 1) := by decide +kernel
theorem d360_1140 : decode (hs_code 360) 1140 = .ok (.iconst 2, 1) := by decide +kernel
theorem d360_1141 : decode (hs_code 360) 1141 = .ok (.iadd, 1) := by decide +kernel
theorem d360_1142 : decode (hs_code 360) 1142 = .ok (.iaload, 1) := by decide +kernel
theorem d360_1143 : decode (hs_code 360) 1143 = .ok (.invokevirtual 134, 3) := by decide +kernel
theorem d360_1146 : decode (hs_code 360) 1146 = .ok (.aload_n 2, 1) := by decide +kernel
theorem d360_1147 : decode (hs_code 360) 1147 = .ok (.aload_n 0, 1) := by decide +kernel
theorem d360_1148 : decode (hs_code 360) 1148 = .ok (.iload_n 3, 1) := by decide +kernel
theorem d360_1149 : decode (hs_code 360) 1149 = .ok (.iconst 1, 1) := by decide +kernel
theorem d360_1150 : decode (hs_code 360) 1150 = .ok (.iadd, 1) := by decide +kernel
theorem d360_1151 : decode (hs_code 360) 1151 = .ok (.iaload, 1) := by decide +kernel
theorem d360_1152 : decode (hs_code 360) 1152 = .ok (.aload_n 0, 1) := by decide +kernel
theorem d360_1153 : decode (hs_code 360) 1153 = .ok (.iload_n 3, 1) := by decide +kernel
theorem d360_1154 : decode (hs_code 360) 1154 = .ok (.iconst 2, 1) := by decide +kernel
theorem d360_1155 : decode (hs_code 360) 1155 = .ok (.iadd, 1) := by decide +kernel
theorem d360_1156 : decode (hs_code 360) 1156 = .ok (.iaload, 1) := by decide +kernel
theorem d360_1157 : decode (hs_code 360) 1157 = .ok (.invokevirtual 137, 3) := by decide +kernel
theorem d360_1160 : decode (hs_code 360) 1160 = .ok (.if_icmp .eq 794, 3) := by decide +kernel
theorem d360_1163 : decode (hs_code 360) 1163 = .ok (.iconst 0, 1) := by decide +kernel
theorem d360_1164 : decode (hs_code 360) 1164 = .ok (.ireturn, 1) := by decide +kernel
theorem d360_1165 : decode (hs_code 360) 1165 = .ok (.aload_n 1, 1) := by decide +kernel
theorem d360_1166 : decode (hs_code 360) 1166 = .ok (.aload_n 0, 1) := by decide +kernel
theorem d360_1167 : decode (hs_code 360) 1167 = .ok (.iload_n 3, 1) := by decide +kernel
theorem d360_1168 : decode (hs_code 360) 1168 = .ok (.iconst 1, 1) := by decide +kernel
theorem d360_1169 : decode (hs_code 360) 1169 = .ok (.iadd, 1) := by decide +kernel
theorem d360_1170 : decode (hs_code 360) 1170 = .ok (.iaload, 1) := by decide +kernel
theorem d360_1171 : decode (hs_code 360) 1171 = .ok (.aload_n 0, 1) := by decide +kernel
theorem d360_1172 : decode (hs_code 360) 1172 = .ok (.iload_n 3, 1) := by decide +kernel
theorem d360_1173 : decode (hs_code 360) 1173 = .ok (.iconst 2, 1) := by decide +kernel
theorem d360_1174 : decode (hs_code 360) 1174 = .ok (.iadd, 1) := by decide +kernel
theorem d360_1175 : decode (hs_code 360) 1175 = .ok (.iaload, 1) := by decide +kernel
theorem d360_1176 : decode (hs_code 360) 1176 = .ok (.aload_n 0, 1) := by decide +kernel
theorem d360_1177 : decode (hs_code 360) 1177 = .ok (.iload_n 3, 1) := by decide +kernel
theorem d360_1178 : decode (hs_code 360) 1178 = .ok (.iconst 3, 1) := by decide +kernel
theorem d360_1179 : decode (hs_code 360) 1179 = .ok (.iadd, 1) := by decide +kernel
theorem d360_1180 : decode (hs_code 360) 1180 = .ok (.iaload, 1) := by decide +kernel
theorem d360_1181 : decode (hs_code 360) 1181 = .ok (.invokevirtual 138, 3) := by decide +kernel
theorem d360_1184 : decode (hs_code 360) 1184 = .ok (.aload_n 2, 1) := by decide +kernel
theorem d360_1185 : decode (hs_code 360) 1185 = .ok (.aload_n 0, 1) := by decide +kernel
theorem d360_1186 : decode (hs_code 360) 1186 = .ok (.iload_n 3, 1) := by decide +kernel
theorem d360_1187 : decode (hs_code 360) 1187 = .ok (.iconst 1, 1) := by decide +kernel
theorem d360_1188 : decode (hs_code 360) 1188 = .ok (.iadd, 1) := by decide +kernel
theorem d360_1189 : decode (hs_code 360) 1189 = .ok (.iaload, 1) := by decide +kernel
theorem d360_1190 : decode (hs_code 360) 1190 = .ok (.aload_n 0, 1) := by decide +kernel
theorem d360_1191 : decode (hs_code 360) 1191 = .ok (.iload_n 3, 1) := by decide +kernel
theorem d360_1192 : decode (hs_code 360) 1192 = .ok (.iconst 2, 1) := by decide +kernel
theorem d360_1193 : decode (hs_code 360) 1193 = .ok (.iadd, 1) := by decide +kernel
theorem d360_1194 : decode (hs_code 360) 1194 = .ok (.iaload, 1) := by decide +kernel
theorem d360_1195 : decode (hs_code 360) 1195 = .ok (.aload_n 0, 1) := by decide +kernel
theorem d360_1196 : decode (hs_code 360) 1196 = .ok (.iload_n 3, 1) := by decide +kernel
theorem d360_1197 : decode (hs_code 360) 1197 = .ok (.iconst 3, 1) := by decide +kernel
theorem d360_1198 : decode (hs_code 360) 1198 = .ok (.iadd, 1) := by decide +kernel
theorem d360_1199 : decode (hs_code 360) 1199 = .ok (.iaload, 1) := by decide +kernel
theorem d360_1200 : decode (hs_code 360) 1200 = .ok (.invokevirtual 141, 3) := by decide +kernel
theorem d360_1203 : decode (hs_code 360) 1203 = .ok (.if_icmp .eq 751, 3) := by decide +kernel
theorem d360_1206 : decode (hs_code 360) 1206 = .ok (.iconst 0, 1) := by decide +kernel
theorem d360_1207 : decode (hs_code 360) 1207 = .ok (.ireturn, 1) := by decide +kernel
theorem d360_1208 : decode (hs_code 360) 1208 = .ok (.aload_n 1, 1) := by decide +kernel
theorem d360_1209 : decode (hs_code 360) 1209 = .ok (.aload_n 0, 1) := by decide +kernel
theorem d360_1210 : decode (hs_code 360) 1210 = .ok (.iload_n 3, 1) := by decide +kernel
theorem d360_1211 : decode (hs_code 360) 1211 = .ok (.iconst 1, 1) := by decide +kernel
theorem d360_1212 : decode (hs_code 360) 1212 = .ok (.iadd, 1) := by decide +kernel
theorem d360_1213 : decode (hs_code 360) 1213 = .ok (.iaload, 1) := by decide +kernel
theorem d360_1214 : decode (hs_code 360) 1214 = .ok (.aload_n 0, 1) := by decide +kernel
theorem d360_1215 : decode (hs_code 360) 1215 = .ok (.iload_n 3, 1) := by decide +kernel
theorem d360_1216 : decode (hs_code 360) 1216 = .ok (.iconst 2, 1) := by decide +kernel
theorem d360_1217 : decode (hs_code 360) 1217 = .ok (.iadd, 1) := by decide +kernel
theorem d360_1218 : decode (hs_code 360) 1218 = .ok (.iaload, 1) := by decide +kernel
theorem d360_1219 : decode (hs_code 360) 1219 = .ok (.invokevirtual 142, 3) := by decide +kernel
theorem d360_1222 : decode (hs_code 360) 1222 = .ok (.aload_n 2, 1) := by decide +kernel
theorem d360_1223 : decode (hs_code 360) 1223 = .ok (.aload_n 0, 1) := by decide +kernel
theorem d360_1224 : decode (hs_code 360) 1224 = .ok (.iload_n 3, 1) := by decide +kernel
theorem d360_1225 : decode (hs_code 360) 1225 = .ok (.iconst 1, 1) := by decide +kernel
theorem d360_1226 : decode (hs_code 360) 1226 = .ok (.iadd, 1) := by decide +kernel
theorem d360_1227 : decode (hs_code 360) 1227 = .ok (.iaload, 1) := by decide +kernel
theorem d360_1228 : decode (hs_code 360) 1228 = .ok (.aload_n 0, 1) := by decide +kernel
theorem d360_1229 : decode (hs_code 360) 1229 = .ok (.iload_n 3, 1) := by decide +kernel
theorem d360_1230 : decode (hs_code 360) 1230 = .ok (.iconst 2, 1) := by decide +kernel
theorem d360_1231 : decode (hs_code 360) 1231 = .ok (.iadd, 1) := by decide +kernel
theorem d360_1232 : decode (hs_code 360) 1232 = .ok (.iaload, 1) := by decide +kernel
theorem d360_1233 : decode (hs_code 360) 1233 = .ok (.invokevirtual 145, 3) := by decide +kernel
theorem d360_1236 : decode (hs_code 360) 1236 = .ok (.if_icmp .eq 718, 3) := by decide +kernel
theorem d360_1239 : decode (hs_code 360) 1239 = .ok (.iconst 0, 1) := by decide +kernel
theorem d360_1240 : decode (hs_code 360) 1240 = .ok (.ireturn, 1) := by decide +kernel
theorem d360_1241 : decode (hs_code 360) 1241 = .ok (.aload_n 1, 1) := by decide +kernel
theorem d360_1242 : decode (hs_code 360) 1242 = .ok (.aload_n 0, 1) := by decide +kernel
theorem d360_1243 : decode (hs_code 360) 1243 = .ok (.iload_n 3, 1) := by decide +kernel
theorem d360_1244 : decode (hs_code 360) 1244 = .ok (.iconst 1, 1) := by decide +kernel
theorem d360_1245 : decode (hs_code 360) 1245 = .ok (.iadd, 1) := by decide +kernel
theorem d360_1246 : decode (hs_code 360) 1246 = .ok (.iaload, 1) := by decide +kernel
theorem d360_1247 : decode (hs_code 360) 1247 = .ok (.invokevirtual 146, 3) := by decide +kernel
theorem d360_1250 : decode (hs_code 360) 1250 = .ok (.aload_n 2, 1) := by decide +kernel
theorem d360_1251 : decode (hs_code 360) 1251 = .ok (.aload_n 0, 1) := by decide +kernel
theorem d360_1252 : decode (hs_code 360) 1252 = .ok (.iload_n 3, 1) := by decide +kernel
theorem d360_1253 : decode (hs_code 360) 1253 = .ok (.iconst 1, 1) := by decide +kernel
theorem d360_1254 : decode (hs_code 360) 1254 = .ok (.iadd, 1) := by decide +kernel
theorem d360_1255 : decode (hs_code 360) 1255 = .ok (.iaload, 1) := by decide +kernel
theorem d360_1256 : decode (hs_code 360) 1256 = .ok (.invokevirtual 149, 3) := by decide +kernel
theorem d360_1259 : decode (hs_code 360) 1259 = .ok (.if_icmp .eq 695, 3) := by decide +kernel
theorem d360_1262 : decode (hs_code 360) 1262 = .ok (.iconst 0, 1) := by decide +kernel
theorem d360_1263 : decode (hs_code 360) 1263 = .ok (.ireturn, 1) := by decide +kernel
theorem d360_1264 : decode (hs_code 360) 1264 = .ok (.aload_n 1, 1) := by decide +kernel
theorem d360_1265 : decode (hs_code 360) 1265 = .ok (.invokevirtual 150, 3) := by decide +kernel
theorem d360_1268 : decode (hs_code 360) 1268 = .ok (.aload_n 2, 1) := by decide +kernel
theorem d360_1269 : decode (hs_code 360) 1269 = .ok (.invokevirtual 153, 3) := by decide +kernel
theorem d360_1272 : decode (hs_code 360) 1272 = .ok (.if_icmp .eq 682, 3) := by decide +kernel
theorem d360_1275 : decode (hs_code 360) 1275 = .ok (.iconst 0, 1) := by decide +kernel
theorem d360_1276 : decode (hs_code 360) 1276 = .ok (.ireturn, 1) := by decide +kernel
theorem d360_1277 : decode (hs_code 360) 1277 = .ok (.aload_n 1, 1) := by decide +kernel
theorem d360_1278 : decode (hs_code 360) 1278 = .ok (.aload_n 0, 1) := by decide +kernel
theorem d360_1279 : decode (hs_code 360) 1279 = .ok (.iload_n 3, 1) := by decide +kernel
theorem d360_1280 : decode (hs_code 360) 1280 = .ok (.iconst 1, 1) := by decide +kernel
theorem d360_1281 : decode (hs_code 360) 1281 = .ok (.iadd, 1) := by decide +kernel
theorem d360_1282 : decode (hs_code 360) 1282 = .ok (.iaload, 1) := by decide +kernel
theorem d360_1283 : decode (hs_code 360) 1283 = .ok (.invokevirtual 154, 3) := by decide +kernel
theorem d360_1286 : decode (hs_code 360) 1286 = .ok (.aload_n 2, 1) := by decide +kernel
theorem d360_1287 : decode (hs_code 360) 1287 = .ok (.aload_n 0, 1) := by decide +kernel
theorem d360_1288 : decode (hs_code 360) 1288 = .ok (.iload_n 3, 1) := by decide +kernel
theorem d360_1289 : decode (hs_code 360) 1289 = .ok (.iconst 1, 1) := by decide +kernel
theorem d360_1290 : decode (hs_code 360) 1290 = .ok (.iadd, 1) := by decide +kernel
theorem d360_1291 : decode (hs_code 360) 1291 = .ok (.iaload, 1) := by decide +kernel
theorem d360_1292 : decode (hs_code 360) 1292 = .ok (.invokevirtual 157, 3) := by decide +kernel
theorem d360_1295 : decode (hs_code 360) 1295 = .ok (.if_icmp .eq 659, 3) := by decide +kernel
theorem d360_1298 : decode (hs_code 360) 1298 = .ok (.iconst 0, 1) := by decide +kernel
theorem d360_1299 : decode (hs_code 360) 1299 = .ok (.ireturn, 1) := by decide +kernel
theorem d360_1300 : decode (hs_code 360) 1300 = .ok (.aload_n 1, 1) := by decide +kernel
theorem d360_1301 : decode (hs_code 360) 1301 = .ok (.aload_n 0, 1) := by decide +kernel
theorem d360_1302 : decode (hs_code 360) 1302 = .ok (.iload_n 3, 1) := by decide +kernel
theorem d360_1303 : decode (hs_code 360) 1303 = .ok (.iconst 1, 1) := by decide +kernel
theorem d360_1304 : decode (hs_code 360) 1304 = .ok (.iadd, 1) := by decide +kernel
theorem d360_1305 : decode (hs_code 360) 1305 = .ok (.iaload, 1) := by decide +kernel
theorem d360_1306 : decode (hs_code 360) 1306 = .ok (.invokevirtual 158, 3) := by decide +kernel
theorem d360_1309 : decode (hs_code 360) 1309 = .ok (.aload_n 2, 1) := by decide +kernel
theorem d360_1310 : decode (hs_code 360) 1310 = .ok (.aload_n 0, 1) := by decide +kernel
theorem d360_1311 : decode (hs_code 360) 1311 = .ok (.iload_n 3, 1) := by decide +kernel
theorem d360_1312 : decode (hs_code 360) 1312 = .ok (.iconst 1, 1) := by decide +kernel
theorem d360_1313 : decode (hs_code 360) 1313 = .ok (.iadd, 1) := by decide +kernel
theorem d360_1314 : decode (hs_code 360) 1314 = .ok (.iaload, 1) := by decide +kernel
theorem d360_1315 : decode (hs_code 360) 1315 = .ok (.invokevirtual 161, 3) := by decide +kernel
theorem d360_1318 : decode (hs_code 360) 1318 = .ok (.if_icmp .eq 636, 3) := by decide +kernel
theorem d360_1321 : decode (hs_code 360) 1321 = .ok (.iconst 0, 1) := by decide +kernel
theorem d360_1322 : decode (hs_code 360) 1322 = .ok (.ireturn, 1) := by decide +kernel
theorem d360_1323 : decode (hs_code 360) 1323 = .ok (.aload_n 1, 1) := by decide +kernel
theorem d360_1324 : decode (hs_code 360) 1324 = .ok (.aload_n 0, 1) := by decide +kernel
theorem d360_1325 : decode (hs_code 360) 1325 = .ok (.iload_n 3, 1) := by decide +kernel
theorem d360_1326 : decode (hs_code 360) 1326 = .ok (.iconst 1, 1) := by decide +kernel
theorem d360_1327 : decode (hs_code 360) 1327 = .ok (.iadd, 1) := by decide +kernel
theorem d360_1328 : decode (hs_code 360) 1328 = .ok (.iaload, 1) := by decide +kernel
theorem d360_1329 : decode (hs_code 360) 1329 = .ok (.invokevirtual 162, 3) := by decide +kernel
theorem d360_1332 : decode (hs_code 360) 1332 = .ok (.aload_n 2, 1) := by decide +kernel
theorem d360_1333 : decode (hs_code 360) 1333 = .ok (.aload_n 0, 1) := by decide +kernel
theorem d360_1334 : decode (hs_code 360) 1334 = .ok (.iload_n 3, 1) := by decide +kernel
theorem d360_1335 : decode (hs_code 360) 1335 = .ok (.iconst 1, 1) := by decide +kernel
theorem d360_1336 : decode (hs_code 360) 1336 = .ok (.iadd, 1) := by decide +kernel
theorem d360_1337 : decode (hs_code 360) 1337 = .ok (.iaload, 1) := by decide +kernel
theorem d360_1338 : decode (hs_code 360) 1338 = .ok (.invokevirtual 165, 3) := by decide +kernel
theorem d360_1341 : decode (hs_code 360) 1341 = .ok (.if_icmp .eq 613, 3) := by decide +kernel
theorem d360_1344 : decode (hs_code 360) 1344 = .ok (.iconst 0, 1) := by decide +kernel
theorem d360_1345 : decode (hs_code 360) 1345 = .ok (.ireturn, 1) := by decide +kernel
theorem d360_1346 : decode (hs_code 360) 1346 = .ok (.aload_n 1, 1) := by decide +kernel
theorem d360_1347 : decode (hs_code 360) 1347 = .ok (.aload_n 0, 1) := by decide +kernel
theorem d360_1348 : decode (hs_code 360) 1348 = .ok (.iload_n 3, 1) := by decide +kernel
theorem d360_1349 : decode (hs_code 360) 1349 = .ok (.iconst 1, 1) := by decide +kernel
theorem d360_1350 : decode (hs_code 360) 1350 = .ok (.iadd, 1) := by decide +kernel
theorem d360_1351 : decode (hs_code 360) 1351 = .ok (.iaload, 1) := by decide +kernel
theorem d360_1352 : decode (hs_code 360) 1352 = .ok (.invokevirtual 166, 3) := by decide +kernel
theorem d360_1355 : decode (hs_code 360) 1355 = .ok (.aload_n 2, 1) := by decide +kernel
theorem d360_1356 : decode (hs_code 360) 1356 = .ok (.aload_n 0, 1) := by decide +kernel
theorem d360_1357 : decode (hs_code 360) 1357 = .ok (.iload_n 3, 1) := by decide +kernel
theorem d360_1358 : decode (hs_code 360) 1358 = .ok (.iconst 1, 1) := by decide +kernel
theorem d360_1359 : decode (hs_code 360) 1359 = .ok (.iadd, 1) := by decide +kernel
theorem d360_1360 : decode (hs_code 360) 1360 = .ok (.iaload, 1) := by decide +kernel
theorem d360_1361 : decode (hs_code 360) 1361 = .ok (.invokevirtual 169, 3) := by decide +kernel
theorem d360_1364 : decode (hs_code 360) 1364 = .ok (.if_icmp .eq 590, 3) := by decide +kernel
theorem d360_1367 : decode (hs_code 360) 1367 = .ok (.iconst 0, 1) := by decide +kernel
theorem d360_1368 : decode (hs_code 360) 1368 = .ok (.ireturn, 1) := by decide +kernel
theorem d360_1369 : decode (hs_code 360) 1369 = .ok (.aload_n 1, 1) := by decide +kernel
theorem d360_1370 : decode (hs_code 360) 1370 = .ok (.aload_n 0, 1) := by decide +kernel
theorem d360_1371 : decode (hs_code 360) 1371 = .ok (.iload_n 3, 1) := by decide +kernel
theorem d360_1372 : decode (hs_code 360) 1372 = .ok (.iconst 1, 1) := by decide +kernel
theorem d360_1373 : decode (hs_code 360) 1373 = .ok (.iadd, 1) := by decide +kernel
theorem d360_1374 : decode (hs_code 360) 1374 = .ok (.iaload, 1) := by decide +kernel
theorem d360_1375 : decode (hs_code 360) 1375 = .ok (.aload_n 0, 1) := by decide +kernel
theorem d360_1376 : decode (hs_code 360) 1376 = .ok (.iload_n 3, 1) := by decide +kernel
theorem d360_1377 : decode (hs_code 360) 1377 = .ok (.iconst 2, 1) := by decide +kernel
theorem d360_1378 : decode (hs_code 360) 1378 = .ok (.iadd, 1) := by decide +kernel
theorem d360_1379 : decode (hs_code 360) 1379 = .ok (.iaload, 1) := by decide +kernel
theorem d360_1380 : decode (hs_code 360) 1380 = .ok (.invokevirtual 170, 3) := by decide +kernel
theorem d360_1383 : decode (hs_code 360) 1383 = .ok (.aload_n 2, 1) := by decide +kernel
theorem d360_1384 : decode (hs_code 360) 1384 = .ok (.aload_n 0, 1) := by decide +kernel
theorem d360_1385 : decode (hs_code 360) 1385 = .ok (.iload_n 3, 1) := by decide +kernel
theorem d360_1386 : decode (hs_code 360) 1386 = .ok (.iconst 1, 1) := by decide +kernel
theorem d360_1387 : decode (hs_code 360) 1387 = .ok (.iadd, 1) := by decide +kernel
theorem d360_1388 : decode (hs_code 360) 1388 = .ok (.iaload, 1) := by decide +kernel
theorem d360_1389 : decode (hs_code 360) 1389 = .ok (.aload_n 0, 1) := by decide +kernel
theorem d360_1390 : decode (hs_code 360) 1390 = .ok (.iload_n 3, 1) := by decide +kernel
theorem d360_1391 : decode (hs_code 360) 1391 = .ok (.iconst 2, 1) := by decide +kernel
theorem d360_1392 : decode (hs_code 360) 1392 = .ok (.iadd, 1) := by decide +kernel
theorem d360_1393 : decode (hs_code 360) 1393 = .ok (.iaload, 1) := by decide +kernel
theorem d360_1394 : decode (hs_code 360) 1394 = .ok (.invokevirtual 173, 3) := by decide +kernel
theorem d360_1397 : decode (hs_code 360) 1397 = .ok (.if_icmp .eq 557, 3) := by decide +kernel
theorem d360_1400 : decode (hs_code 360) 1400 = .ok (.iconst 0, 1) := by decide +kernel
theorem d360_1401 : decode (hs_code 360) 1401 = .ok (.ireturn, 1) := by decide +kernel
theorem d360_1402 : decode (hs_code 360) 1402 = .ok (.aload_n 1, 1) := by decide +kernel
theorem d360_1403 : decode (hs_code 360) 1403 = .ok (.aload_n 0, 1) := by decide +kernel
theorem d360_1404 : decode (hs_code 360) 1404 = .ok (.iload_n 3, 1) := by decide +kernel
theorem d360_1405 : decode (hs_code 360) 1405 = .ok (.iconst 1, 1) := by decide +kernel
theorem d360_1406 : decode (hs_code 360) 1406 = .ok (.iadd, 1) := by decide +kernel
theorem d360_1407 : decode (hs_code 360) 1407 = .ok (.iaload, 1) := by decide +kernel
theorem d360_1408 : decode (hs_code 360) 1408 = .ok (.aload_n 0, 1) := by decide +kernel
theorem d360_1409 : decode (hs_code 360) 1409 = .ok (.iload_n 3, 1) := by decide +kernel
theorem d360_1410 : decode (hs_code 360) 1410 = .ok (.iconst 2, 1) := by decide +kernel
theorem d360_1411 : decode (hs_code 360) 1411 = .ok (.iadd, 1) := by decide +kernel
theorem d360_1412 : decode (hs_code 360) 1412 = .ok (.iaload, 1) := by decide +kernel
theorem d360_1413 : decode (hs_code 360) 1413 = .ok (.invokevirtual 174, 3) := by decide +kernel
theorem d360_1416 : decode (hs_code 360) 1416 = .ok (.aload_n 2, 1) := by decide +kernel
theorem d360_1417 : decode (hs_code 360) 1417 = .ok (.aload_n 0, 1) := by decide +kernel
theorem d360_1418 : decode (hs_code 360) 1418 = .ok (.iload_n 3, 1) := by decide +kernel
theorem d360_1419 : decode (hs_code 360) 1419 = .ok (.iconst 1, 1) := by decide +kernel
theorem d360_1420 : decode (hs_code 360) 1420 = .ok (.iadd, 1) := by decide +kernel
theorem d360_1421 : decode (hs_code 360) 1421 = .ok (.iaload, 1) := by decide +kernel
theorem d360_1422 : decode (hs_code 360) 1422 = .ok (.aload_n 0, 1) := by decide +kernel
theorem d360_1423 : decode (hs_code 360) 1423 = .ok (.iload_n 3, 1) := by decide +kernel
theorem d360_1424 : decode (hs_code 360) 1424 = .ok (.iconst 2, 1) := by decide +kernel
theorem d360_1425 : decode (hs_code 360) 1425 = .ok (.iadd, 1) := by decide +kernel
theorem d360_1426 : decode (hs_code 360) 1426 = .ok (.iaload, 1) := by decide +kernel
theorem d360_1427 : decode (hs_code 360) 1427 = .ok (.invokevirtual 177, 3) := by decide +kernel
theorem d360_1430 : decode (hs_code 360) 1430 = .ok (.if_icmp .eq 524, 3) := by decide +kernel
theorem d360_1433 : decode (hs_code 360) 1433 = .ok (.iconst 0, 1) := by decide +kernel
theorem d360_1434 : decode (hs_code 360) 1434 = .ok (.ireturn, 1) := by decide +kernel
theorem d360_1435 : decode (hs_code 360) 1435 = .ok (.aload_n 1, 1) := by decide +kernel
theorem d360_1436 : decode (hs_code 360) 1436 = .ok (.aload_n 0, 1) := by decide +kernel
theorem d360_1437 : decode (hs_code 360) 1437 = .ok (.iload_n 3, 1) := by decide +kernel
theorem d360_1438 : decode (hs_code 360) 1438 = .ok (.iconst 1, 1) := by decide +kernel
theorem d360_1439 : decode (hs_code 360) 1439 = .ok (.iadd, 1) := by decide +kernel
theorem d360_1440 : decode (hs_code 360) 1440 = .ok (.iaload, 1) := by decide +kernel
theorem d360_1441 : decode (hs_code 360) 1441 = .ok (.aload_n 0, 1) := by decide +kernel
theorem d360_1442 : decode (hs_code 360) 1442 = .ok (.iload_n 3, 1) := by decide +kernel
theorem d360_1443 : decode (hs_code 360) 1443 = .ok (.iconst 2, 1) := by decide +kernel
theorem d360_1444 : decode (hs_code 360) 1444 = .ok (.iadd, 1) := by decide +kernel
theorem d360_1445 : decode (hs_code 360) 1445 = .ok (.iaload, 1) := by decide +kernel
theorem d360_1446 : decode (hs_code 360) 1446 = .ok (.invokevirtual 178, 3) := by decide +kernel
theorem d360_1449 : decode (hs_code 360) 1449 = .ok (.aload_n 2, 1) := by decide +kernel
theorem d360_1450 : decode (hs_code 360) 1450 = .ok (.aload_n 0, 1) := by decide +kernel
theorem d360_1451 : decode (hs_code 360) 1451 = .ok (.iload_n 3, 1) := by decide +kernel
theorem d360_1452 : decode (hs_code 360) 1452 = .ok (.iconst 1, 1) := by decide +kernel
theorem d360_1453 : decode (hs_code 360) 1453 = .ok (.iadd, 1) := by decide +kernel
theorem d360_1454 : decode (hs_code 360) 1454 = .ok (.iaload, 1) := by decide +kernel
theorem d360_1455 : decode (hs_code 360) 1455 = .ok (.aload_n 0, 1) := by decide +kernel
theorem d360_1456 : decode (hs_code 360) 1456 = .ok (.iload_n 3, 1) := by decide +kernel
theorem d360_1457 : decode (hs_code 360) 1457 = .ok (.iconst 2, 1) := by decide +kernel
theorem d360_1458 : decode (hs_code 360) 1458 = .ok (.iadd, 1) := by decide +kernel
theorem d360_1459 : decode (hs_code 360) 1459 = .ok (.iaload, 1) := by decide +kernel
theorem d360_1460 : decode (hs_code 360) 1460 = .ok (.invokevirtual 181, 3) := by decide +kernel
theorem d360_1463 : decode (hs_code 360) 1463 = .ok (.if_icmp .eq 491, 3) := by decide +kernel
theorem d360_1466 : decode (hs_code 360) 1466 = .ok (.iconst 0, 1) := by decide +kernel
theorem d360_1467 : decode (hs_code 360) 1467 = .ok (.ireturn, 1) := by decide +kernel
theorem d360_1468 : decode (hs_code 360) 1468 = .ok (.aload_n 1, 1) := by decide +kernel
theorem d360_1469 : decode (hs_code 360) 1469 = .ok (.aload_n 0, 1) := by decide +kernel
theorem d360_1470 : decode (hs_code 360) 1470 = .ok (.iload_n 3, 1) := by decide +kernel
theorem d360_1471 : decode (hs_code 360) 1471 = .ok (.iconst 1, 1) := by decide +kernel
theorem d360_1472 : decode (hs_code 360) 1472 = .ok (.iadd, 1) := by decide +kernel
theorem d360_1473 : decode (hs_code 360) 1473 = .ok (.iaload, 1) := by decide +kernel
theorem d360_1474 : decode (hs_code 360) 1474 = .ok (.aload_n 0, 1) := by decide +kernel
theorem d360_1475 : decode (hs_code 360) 1475 = .ok (.iload_n 3, 1) := by decide +kernel
theorem d360_1476 : decode (hs_code 360) 1476 = .ok (.iconst 2, 1) := by decide +kernel
theorem d360_1477 : decode (hs_code 360) 1477 = .ok (.iadd, 1) := by decide +kernel
theorem d360_1478 : decode (hs_code 360) 1478 = .ok (.iaload, 1) := by decide +kernel
theorem d360_1479 : decode (hs_code 360) 1479 = .ok (.invokevirtual 182, 3) := by decide +kernel
theorem d360_1482 : decode (hs_code 360) 1482 = .ok (.aload_n 2, 1) := by decide +kernel
theorem d360_1483 : decode (hs_code 360) 1483 = .ok (.aload_n 0, 1) := by decide +kernel
theorem d360_1484 : decode (hs_code 360) 1484 = .ok (.iload_n 3, 1) := by decide +kernel
theorem d360_1485 : decode (hs_code 360) 1485 = .ok (.iconst 1, 1) := by decide +kernel
theorem d360_1486 : decode (hs_code 360) 1486 = .ok (.iadd, 1) := by decide +kernel
theorem d360_1487 : decode (hs_code 360) 1487 = .ok (.iaload, 1) := by decide +kernel
theorem d360_1488 : decode (hs_code 360) 1488 = .ok (.aload_n 0, 1) := by decide +kernel
theorem d360_1489 : decode (hs_code 360) 1489 = .ok (.iload_n 3, 1) := by decide +kernel
theorem d360_1490 : decode (hs_code 360) 1490 = .ok (.iconst 2, 1) := by decide +kernel
theorem d360_1491 : decode (hs_code 360) 1491 = .ok (.iadd, 1) := by decide +kernel
theorem d360_1492 : decode (hs_code 360) 1492 = .ok (.iaload, 1) := by decide +kernel
theorem d360_1493 : decode (hs_code 360) 1493 = .ok (.invokevirtual 185, 3) := by decide +kernel
theorem d360_1496 : decode (hs_code 360) 1496 = .ok (.if_icmp .eq 458, 3) := by decide +kernel
theorem d360_1499 : decode (hs_code 360) 1499 = .ok (.iconst 0, 1) := by decide +kernel
theorem d360_15 : decode (hs_code 360) 15 = .ok (.astore_n 2, 1) := by decide +kernel
theorem d360_1500 : decode (hs_code 360) 1500 = .ok (.ireturn, 1) := by decide +kernel
theorem d360_1501 : decode (hs_code 360) 1501 = .ok (.aload_n 1, 1) := by decide +kernel
theorem d360_1502 : decode (hs_code 360) 1502 = .ok (.invokevirtual 186, 3) := by decide +kernel
theorem d360_1505 : decode (hs_code 360) 1505 = .ok (.aload_n 2, 1) := by decide +kernel
theorem d360_1506 : decode (hs_code 360) 1506 = .ok (.invokevirtual 189, 3) := by decide +kernel
theorem d360_1509 : decode (hs_code 360) 1509 = .ok (.if_icmp .eq 445, 3) := by decide +kernel
theorem d360_1512 : decode (hs_code 360) 1512 = .ok (.iconst 0, 1) := by decide +kernel
theorem d360_1513 : decode (hs_code 360) 1513 = .ok (.ireturn, 1) := by decide +kernel
theorem d360_1514 : decode (hs_code 360) 1514 = .ok (.aload_n 1, 1) := by decide +kernel
theorem d360_1515 : decode (hs_code 360) 1515 = .ok (.aload_n 0, 1) := by decide +kernel
theorem d360_1516 : decode (hs_code 360) 1516 = .ok (.iload_n 3, 1) := by decide +kernel
theorem d360_1517 : decode (hs_code 360) 1517 = .ok (.iconst 1, 1) := by decide +kernel
theorem d360_1518 : decode (hs_code 360) 1518 = .ok (.iadd, 1) := by decide +kernel
theorem d360_1519 : decode (hs_code 360) 1519 = .ok (.iaload, 1) := by decide +kernel
theorem d360_1520 : decode (hs_code 360) 1520 = .ok (.invokevirtual 190, 3) := by decide +kernel
theorem d360_1523 : decode (hs_code 360) 1523 = .ok (.aload_n 2, 1) := by decide +kernel
theorem d360_1524 : decode (hs_code 360) 1524 = .ok (.aload_n 0, 1) := by decide +kernel
theorem d360_1525 : decode (hs_code 360) 1525 = .ok (.iload_n 3, 1) := by decide +kernel
theorem d360_1526 : decode (hs_code 360) 1526 = .ok (.iconst 1, 1) := by decide +kernel
theorem d360_1527 : decode (hs_code 360) 1527 = .ok (.iadd, 1) := by decide +kernel
theorem d360_1528 : decode (hs_code 360) 1528 = .ok (.iaload, 1) := by decide +kernel
theorem d360_1529 : decode (hs_code 360) 1529 = .ok (.invokevirtual 193, 3) := by decide +kernel
theorem d360_1532 : decode (hs_code 360) 1532 = .ok (.if_icmp .eq 422, 3) := by decide +kernel
theorem d360_1535 : decode (hs_code 360) 1535 = .ok (.iconst 0, 1) := by decide +kernel
theorem d360_1536 : decode (hs_code 360) 1536 = .ok (.ireturn, 1) := by decide +kernel
theorem d360_1537 : decode (hs_code 360) 1537 = .ok (.aload_n 1, 1) := by decide +kernel
theorem d360_1538 : decode (hs_code 360) 1538 = .ok (.aload_n 0, 1) := by decide +kernel
theorem d360_1539 : decode (hs_code 360) 1539 = .ok (.iload_n 3, 1) := by decide +kernel
theorem d360_1540 : decode (hs_code 360) 1540 = .ok (.iconst 1, 1) := by decide +kernel
theorem d360_1541 : decode (hs_code 360) 1541 = .ok (.iadd, 1) := by decide +kernel
theorem d360_1542 : decode (hs_code 360) 1542 = .ok (.iaload, 1) := by decide +kernel
theorem d360_1543 : decode (hs_code 360) 1543 = .ok (.aload_n 0, 1) := by decide +kernel
theorem d360_1544 : decode (hs_code 360) 1544 = .ok (.iload_n 3, 1) := by decide +kernel
theorem d360_1545 : decode (hs_code 360) 1545 = .ok (.iconst 2, 1) := by decide +kernel
theorem d360_1546 : decode (hs_code 360) 1546 = .ok (.iadd, 1) := by decide +kernel
theorem d360_1547 : decode (hs_code 360) 1547 = .ok (.iaload, 1) := by decide +kernel
theorem d360_1548 : decode (hs_code 360) 1548 = .ok (.invokevirtual 194, 3) := by decide +kernel
theorem d360_1551 : decode (hs_code 360) 1551 = .ok (.aload_n 2, 1) := by decide +kernel
theorem d360_1552 : decode (hs_code 360) 1552 = .ok (.aload_n 0, 1) := by decide +kernel
theorem d360_1553 : decode (hs_code 360) 1553 = .ok (.iload_n 3, 1) := by decide +kernel
theorem d360_1554 : decode (hs_code 360) 1554 = .ok (.iconst 1, 1) := by decide +kernel
theorem d360_1555 : decode (hs_code 360) 1555 = .ok (.iadd, 1) := by decide +kernel
theorem d360_1556 : decode (hs_code 360) 1556 = .ok (.iaload, 1) := by decide +kernel
theorem d360_1557 : decode (hs_code 360) 1557 = .ok (.aload_n 0, 1) := by decide +kernel
theorem d360_1558 : decode (hs_code 360) 1558 = .ok (.iload_n 3, 1) := by decide +kernel
theorem d360_1559 : decode (hs_code 360) 1559 = .ok (.iconst 2, 1) := by decide +kernel
theorem d360_1560 : decode (hs_code 360) 1560 = .ok (.iadd, 1) := by decide +kernel
theorem d360_1561 : decode (hs_code 360) 1561 = .ok (.iaload, 1) := by decide +kernel
theorem d360_1562 : decode (hs_code 360) 1562 = .ok (.invokevirtual 197, 3) := by decide +kernel
theorem d360_1565 : decode (hs_code 360) 1565 = .ok (.if_icmp .eq 389, 3) := by decide +kernel
theorem d360_1568 : decode (hs_code 360) 1568 = .ok (.iconst 0, 1) := by decide +kernel
theorem d360_1569 : decode (hs_code 360) 1569 = .ok (.ireturn, 1) := by decide +kernel
theorem d360_1570 : decode (hs_code 360) 1570 = .ok (.aload_n 1, 1) := by decide +kernel
theorem d360_1571 : decode (hs_code 360) 1571 = .ok (.aload_n 0, 1) := by decide +kernel
theorem d360_1572 : decode (hs_code 360) 1572 = .ok (.iload_n 3, 1) := by decide +kernel
theorem d360_1573 : decode (hs_code 360) 1573 = .ok (.iconst 1, 1) := by decide +kernel
theorem d360_1574 : decode (hs_code 360) 1574 = .ok (.iadd, 1) := by decide +kernel
theorem d360_1575 : decode (hs_code 360) 1575 = .ok (.iaload, 1) := by decide +kernel
theorem d360_1576 : decode (hs_code 360) 1576 = .ok (.invokevirtual 198, 3) := by decide +kernel
theorem d360_1579 : decode (hs_code 360) 1579 = .ok (.aload_n 2, 1) := by decide +kernel
theorem d360_1580 : decode (hs_code 360) 1580 = .ok (.aload_n 0, 1) := by decide +kernel
theorem d360_1581 : decode (hs_code 360) 1581 = .ok (.iload_n 3, 1) := by decide +kernel
theorem d360_1582 : decode (hs_code 360) 1582 = .ok (.iconst 1, 1) := by decide +kernel
theorem d360_1583 : decode (hs_code 360) 1583 = .ok (.iadd, 1) := by decide +kernel
theorem d360_1584 : decode (hs_code 360) 1584 = .ok (.iaload, 1) := by decide +kernel
theorem d360_1585 : decode (hs_code 360) 1585 = .ok (.invokevirtual 201, 3) := by decide +kernel
theorem d360_1588 : decode (hs_code 360) 1588 = .ok (.if_icmp .eq 366, 3) := by decide +kernel
theorem d360_1591 : decode (hs_code 360) 1591 = .ok (.iconst 0, 1) := by decide +kernel
theorem d360_1592 : decode (hs_code 360) 1592 = .ok (.ireturn, 1) := by decide +kernel
theorem d360_1593 : decode (hs_code 360) 1593 = .ok (.aload_n 1, 1) := by decide +kernel
theorem d360_1594 : decode (hs_code 360) 1594 = .ok (.aload_n 0, 1) := by decide +kernel
theorem d360_1595 : decode (hs_code 360) 1595 = .ok (.iload_n 3, 1) := by decide +kernel
theorem d360_1596 : decode (hs_code 360) 1596 = .ok (.iconst 1, 1) := by decide +kernel
theorem d360_1597 : decode (hs_code 360) 1597 = .ok (.iadd, 1) := by decide +kernel
theorem d360_1598 : decode (hs_code 360) 1598 = .ok (.iaload, 1) := by decide +kernel
theorem d360_1599 : decode (hs_code 360) 1599 = .ok (.invokevirtual 202, 3) := by decide +kernel
theorem d360_16 : decode (hs_code 360) 16 = .ok (.iconst 0, 1) := by decide +kernel
theorem d360_1602 : decode (hs_code 360) 1602 = .ok (.aload_n 2, 1) := by decide +kernel
theorem d360_1603 : decode (hs_code 360) 1603 = .ok (.aload_n 0, 1) := by decide +kernel
theorem d360_1604 : decode (hs_code 360) 1604 = .ok (.iload_n 3, 1) := by decide +kernel
theorem d360_1605 : decode (hs_code 360) 1605 = .ok (.iconst 1, 1) := by decide +kernel
theorem d360_1606 : decode (hs_code 360) 1606 = .ok (.iadd, 1) := by decide +kernel
theorem d360_1607 : decode (hs_code 360) 1607 = .ok (.iaload, 1) := by decide +kernel
theorem d360_1608 : decode (hs_code 360) 1608 = .ok (.invokevirtual 205, 3) := by decide +kernel
theorem d360_1611 : decode (hs_code 360) 1611 = .ok (.if_icmp .eq 343, 3) := by decide +kernel
theorem d360_1614 : decode (hs_code 360) 1614 = .ok (.iconst 0, 1) := by decide +kernel
theorem d360_1615 : decode (hs_code 360) 1615 = .ok (.ireturn, 1) := by decide +kernel
theorem d360_1616 : decode (hs_code 360) 1616 = .ok (.aload_n 1, 1) := by decide +kernel
theorem d360_1617 : decode (hs_code 360) 1617 = .ok (.aload_n 0, 1) := by decide +kernel
theorem d360_1618 : decode (hs_code 360) 1618 = .ok (.iload_n 3, 1) := by decide +kernel
theorem d360_1619 : decode (hs_code 360) 1619 = .ok (.iconst 1, 1) := by decide +kernel
theorem d360_1620 : decode (hs_code 360) 1620 = .ok (.iadd, 1) := by decide +kernel
theorem d360_1621 : decode (hs_code 360) 1621 = .ok (.iaload, 1) := by decide +kernel
theorem d360_1622 : decode (hs_code 360) 1622 = .ok (.invokevirtual 206, 3) := by decide +kernel
theorem d360_1625 : decode (hs_code 360) 1625 = .ok (.aload_n 2, 1) := by decide +kernel
theorem d360_1626 : decode (hs_code 360) 1626 = .ok (.aload_n 0, 1) := by decide +kernel
theorem d360_1627 : decode (hs_code 360) 1627 = .ok (.iload_n 3, 1) := by decide +kernel
theorem d360_1628 : decode (hs_code 360) 1628 = .ok (.iconst 1, 1) := by decide +kernel
theorem d360_1629 : decode (hs_code 360) 1629 = .ok (.iadd, 1) := by decide +kernel
theorem d360_1630 : decode (hs_code 360) 1630 = .ok (.iaload, 1) := by decide +kernel
theorem d360_1631 : decode (hs_code 360) 1631 = .ok (.invokevirtual 209, 3) := by decide +kernel
theorem d360_1634 : decode (hs_code 360) 1634 = .ok (.if_icmp .eq 320, 3) := by decide +kernel
theorem d360_1637 : decode (hs_code 360) 1637 = .ok (.iconst 0, 1) := by decide +kernel
theorem d360_1638 : decode (hs_code 360) 1638 = .ok (.ireturn, 1) := by decide +kernel
theorem d360_1639 : decode (hs_code 360) 1639 = .ok (.aload_n 1, 1) := by decide +kernel
theorem d360_1640 : decode (hs_code 360) 1640 = .ok (.invokevirtual 210, 3) := by decide +kernel
theorem d360_1643 : decode (hs_code 360) 1643 = .ok (.aload_n 2, 1) := by decide +kernel
theorem d360_1644 : decode (hs_code 360) 1644 = .ok (.invokevirtual 213, 3) := by decide +kernel
theorem d360_1647 : decode (hs_code 360) 1647 = .ok (.if_icmp .eq 307, 3) := by decide +kernel
theorem d360_1650 : decode (hs_code 360) 1650 = .ok (.iconst 0, 1) := by decide +kernel
theorem d360_1651 : decode (hs_code 360) 1651 = .ok (.ireturn, 1) := by decide +kernel
theorem d360_1652 : decode (hs_code 360) 1652 = .ok (.aload_n 1, 1) := by decide +kernel
theorem d360_1653 : decode (hs_code 360) 1653 = .ok (.invokevirtual 214, 3) := by decide +kernel
theorem d360_1656 : decode (hs_code 360) 1656 = .ok (.aload_n 2, 1) := by decide +kernel
theorem d360_1657 : decode (hs_code 360) 1657 = .ok (.invokevirtual 217, 3) := by decide +kernel
theorem d360_1660 : decode (hs_code 360) 1660 = .ok (.if_icmp .eq 294, 3) := by decide +kernel
theorem d360_1663 : decode (hs_code 360) 1663 = .ok (.iconst 0, 1) := by decide +kernel
theorem d360_1664 : decode (hs_code 360) 1664 = .ok (.ireturn, 1) := by decide +kernel
theorem d360_1665 : decode (hs_code 360) 1665 = .ok (.aload_n 1, 1) := by decide +kernel
theorem d360_1666 : decode (hs_code 360) 1666 = .ok (.aload_n 0, 1) := by decide +kernel
theorem d360_1667 : decode (hs_code 360) 1667 = .ok (.iload_n 3, 1) := by decide +kernel
theorem d360_1668 : decode (hs_code 360) 1668 = .ok (.iconst 1, 1) := by decide +kernel
theorem d360_1669 : decode (hs_code 360) 1669 = .ok (.iadd, 1) := by decide +kernel
theorem d360_1670 : decode (hs_code 360) 1670 = .ok (.iaload, 1) := by decide +kernel
theorem d360_1671 : decode (hs_code 360) 1671 = .ok (.aload_n 0, 1) := by decide +kernel
theorem d360_1672 : decode (hs_code 360) 1672 = .ok (.iload_n 3, 1) := by decide +kernel
theorem d360_1673 : decode (hs_code 360) 1673 = .ok (.iconst 2, 1) := by decide +kernel
theorem d360_1674 : decode (hs_code 360) 1674 = .ok (.iadd, 1) := by decide +kernel
theorem d360_1675 : decode (hs_code 360) 1675 = .ok (.iaload, 1) := by decide +kernel
theorem d360_1676 : decode (hs_code 360) 1676 = .ok (.invokevirtual 218, 3) := by decide +kernel
theorem d360_1679 : decode (hs_code 360) 1679 = .ok (.aload_n 2, 1) := by decide +kernel
theorem d360_1680 : decode (hs_code 360) 1680 = .ok (.aload_n 0, 1) := by decide +kernel
theorem d360_1681 : decode (hs_code 360) 1681 = .ok (.iload_n 3, 1) := by decide +kernel
theorem d360_1682 : decode (hs_code 360) 1682 = .ok (.iconst 1, 1) := by decide +kernel
theorem d360_1683 : decode (hs_code 360) 1683 = .ok (.iadd, 1) := by decide +kernel
theorem d360_1684 : decode (hs_code 360) 1684 = .ok (.iaload, 1) := by decide +kernel
theorem d360_1685 : decode (hs_code 360) 1685 = .ok (.aload_n 0, 1) := by decide +kernel
theorem d360_1686 : decode (hs_code 360) 1686 = .ok (.iload_n 3, 1) := by decide +kernel
theorem d360_1687 : decode (hs_code 360) 1687 = .ok (.iconst 2, 1) := by decide +kernel
theorem d360_1688 : decode (hs_code 360) 1688 = .ok (.iadd, 1) := by decide +kernel
theorem d360_1689 : decode (hs_code 360) 1689 = .ok (.iaload, 1) := by decide +kernel
theorem d360_1690 : decode (hs_code 360) 1690 = .ok (.invokevirtual 221, 3) := by decide +kernel
theorem d360_1693 : decode (hs_code 360) 1693 = .ok (.if_icmp .eq 261, 3) := by decide +kernel
theorem d360_1696 : decode (hs_code 360) 1696 = .ok (.iconst 0, 1) := by decide +kernel
theorem d360_1697 : decode (hs_code 360) 1697 = .ok (.ireturn, 1) := by decide +kernel
theorem d360_1698 : decode (hs_code 360) 1698 = .ok (.aload_n 1, 1) := by decide +kernel
theorem d360_1699 : decode (hs_code 360) 1699 = .ok (.invokevirtual 222, 3) := by decide +kernel
theorem d360_17 : decode (hs_code 360) 17 = .ok (.istore_n 3, 1) := by decide +kernel
theorem d360_1702 : decode (hs_code 360) 1702 = .ok (.aload_n 2, 1) := by decide +kernel
theorem d360_1703 : decode (hs_code 360) 1703 = .ok (.invokevirtual 225, 3) := by decide +kernel
theorem d360_1706 : decode (hs_code 360) 1706 = .ok (.if_icmp .eq 248, 3) := by decide +kernel
theorem d360_1709 : decode (hs_code 360) 1709 = .ok (.iconst 0, 1) := by decide +kernel
theorem d360_1710 : decode (hs_code 360) 1710 = .ok (.ireturn, 1) := by decide +kernel
theorem d360_1711 : decode (hs_code 360) 1711 = .ok (.aload_n 1, 1) := by decide +kernel
theorem d360_1712 : decode (hs_code 360) 1712 = .ok (.invokevirtual 226, 3) := by decide +kernel
theorem d360_1715 : decode (hs_code 360) 1715 = .ok (.aload_n 2, 1) := by decide +kernel
theorem d360_1716 : decode (hs_code 360) 1716 = .ok (.invokevirtual 229, 3) := by decide +kernel
theorem d360_1719 : decode (hs_code 360) 1719 = .ok (.if_icmp .eq 235, 3) := by decide +kernel
theorem d360_1722 : decode (hs_code 360) 1722 = .ok (.iconst 0, 1) := by decide +kernel
theorem d360_1723 : decode (hs_code 360) 1723 = .ok (.ireturn, 1) := by decide +kernel
theorem d360_1724 : decode (hs_code 360) 1724 = .ok (.aload_n 1, 1) := by decide +kernel
theorem d360_1725 : decode (hs_code 360) 1725 = .ok (.aload_n 0, 1) := by decide +kernel
theorem d360_1726 : decode (hs_code 360) 1726 = .ok (.iload_n 3, 1) := by decide +kernel
theorem d360_1727 : decode (hs_code 360) 1727 = .ok (.iconst 1, 1) := by decide +kernel
theorem d360_1728 : decode (hs_code 360) 1728 = .ok (.iadd, 1) := by decide +kernel
theorem d360_1729 : decode (hs_code 360) 1729 = .ok (.iaload, 1) := by decide +kernel
theorem d360_1730 : decode (hs_code 360) 1730 = .ok (.invokevirtual 230, 3) := by decide +kernel
theorem d360_1733 : decode (hs_code 360) 1733 = .ok (.aload_n 2, 1) := by decide +kernel
theorem d360_1734 : decode (hs_code 360) 1734 = .ok (.aload_n 0, 1) := by decide +kernel
theorem d360_1735 : decode (hs_code 360) 1735 = .ok (.iload_n 3, 1) := by decide +kernel
theorem d360_1736 : decode (hs_code 360) 1736 = .ok (.iconst 1, 1) := by decide +kernel
theorem d360_1737 : decode (hs_code 360) 1737 = .ok (.iadd, 1) := by decide +kernel
theorem d360_1738 : decode (hs_code 360) 1738 = .ok (.iaload, 1) := by decide +kernel
theorem d360_1739 : decode (hs_code 360) 1739 = .ok (.invokevirtual 233, 3) := by decide +kernel
theorem d360_1742 : decode (hs_code 360) 1742 = .ok (.if_icmp .eq 212, 3) := by decide +kernel
theorem d360_1745 : decode (hs_code 360) 1745 = .ok (.iconst 0, 1) := by decide +kernel
theorem d360_1746 : decode (hs_code 360) 1746 = .ok (.ireturn, 1) := by decide +kernel
theorem d360_1747 : decode (hs_code 360) 1747 = .ok (.aload_n 1, 1) := by decide +kernel
theorem d360_1748 : decode (hs_code 360) 1748 = .ok (.aload_n 0, 1) := by decide +kernel
theorem d360_1749 : decode (hs_code 360) 1749 = .ok (.iload_n 3, 1) := by decide +kernel
theorem d360_1750 : decode (hs_code 360) 1750 = .ok (.iconst 1, 1) := by decide +kernel
theorem d360_1751 : decode (hs_code 360) 1751 = .ok (.iadd, 1) := by decide +kernel
theorem d360_1752 : decode (hs_code 360) 1752 = .ok (.iaload, 1) := by decide +kernel
theorem d360_1753 : decode (hs_code 360) 1753 = .ok (.invokevirtual 234, 3) := by decide +kernel
theorem d360_1756 : decode (hs_code 360) 1756 = .ok (.aload_n 2, 1) := by decide +kernel
theorem d360_1757 : decode (hs_code 360) 1757 = .ok (.aload_n 0, 1) := by decide +kernel
theorem d360_1758 : decode (hs_code 360) 1758 = .ok (.iload_n 3, 1) := by decide +kernel
theorem d360_1759 : decode (hs_code 360) 1759 = .ok (.iconst 1, 1) := by decide +kernel
theorem d360_1760 : decode (hs_code 360) 1760 = .ok (.iadd, 1) := by decide +kernel
theorem d360_1761 : decode (hs_code 360) 1761 = .ok (.iaload, 1) := by decide +kernel
theorem d360_1762 : decode (hs_code 360) 1762 = .ok (.invokevirtual 237, 3) := by decide +kernel
theorem d360_1765 : decode (hs_code 360) 1765 = .ok (.if_icmp .eq 189, 3) := by decide +kernel
theorem d360_1768 : decode (hs_code 360) 1768 = .ok (.iconst 0, 1) := by decide +kernel
theorem d360_1769 : decode (hs_code 360) 1769 = .ok (.ireturn, 1) := by decide +kernel
theorem d360_1770 : decode (hs_code 360) 1770 = .ok (.aload_n 1, 1) := by decide +kernel
theorem d360_1771 : decode (hs_code 360) 1771 = .ok (.aload_n 0, 1) := by decide +kernel
theorem d360_1772 : decode (hs_code 360) 1772 = .ok (.iload_n 3, 1) := by decide +kernel
theorem d360_1773 : decode (hs_code 360) 1773 = .ok (.iconst 1, 1) := by decide +kernel
theorem d360_1774 : decode (hs_code 360) 1774 = .ok (.iadd, 1) := by decide +kernel
theorem d360_1775 : decode (hs_code 360) 1775 = .ok (.iaload, 1) := by decide +kernel
theorem d360_1776 : decode (hs_code 360) 1776 = .ok (.invokevirtual 238, 3) := by decide +kernel
theorem d360_1779 : decode (hs_code 360) 1779 = .ok (.aload_n 2, 1) := by decide +kernel
theorem d360_1780 : decode (hs_code 360) 1780 = .ok (.aload_n 0, 1) := by decide +kernel
theorem d360_1781 : decode (hs_code 360) 1781 = .ok (.iload_n 3, 1) := by decide +kernel
theorem d360_1782 : decode (hs_code 360) 1782 = .ok (.iconst 1, 1) := by decide +kernel
theorem d360_1783 : decode (hs_code 360) 1783 = .ok (.iadd, 1) := by decide +kernel
theorem d360_1784 : decode (hs_code 360) 1784 = .ok (.iaload, 1) := by decide +kernel
theorem d360_1785 : decode (hs_code 360) 1785 = .ok (.invokevirtual 241, 3) := by decide +kernel
theorem d360_1788 : decode (hs_code 360) 1788 = .ok (.if_icmp .eq 166, 3) := by decide +kernel
theorem d360_1791 : decode (hs_code 360) 1791 = .ok (.iconst 0, 1) := by decide +kernel
theorem d360_1792 : decode (hs_code 360) 1792 = .ok (.ireturn, 1) := by decide +kernel
theorem d360_1793 : decode (hs_code 360) 1793 = .ok (.aload_n 1, 1) := by decide +kernel
theorem d360_1794 : decode (hs_code 360) 1794 = .ok (.aload_n 0, 1) := by decide +kernel
theorem d360_1795 : decode (hs_code 360) 1795 = .ok (.iload_n 3, 1) := by decide +kernel
theorem d360_1796 : decode (hs_code 360) 1796 = .ok (.iconst 1, 1) := by decide +kernel
theorem d360_1797 : decode (hs_code 360) 1797 = .ok (.iadd, 1) := by decide +kernel
theorem d360_1798 : decode (hs_code 360) 1798 = .ok (.iaload, 1) := by decide +kernel
theorem d360_1799 : decode (hs_code 360) 1799 = .ok (.aload_n 0, 1) := by decide +kernel
theorem d360_18 : decode (hs_code 360) 18 = .ok (.iload_n 3, 1) := by decide +kernel
theorem d360_1800 : decode (hs_code 360) 1800 = .ok (.iload_n 3, 1) := by decide +kernel
theorem d360_1801 : decode (hs_code 360) 1801 = .ok (.iconst 2, 1) := by decide +kernel
theorem d360_1802 : decode (hs_code 360) 1802 = .ok (.iadd, 1) := by decide +kernel
theorem d360_1803 : decode (hs_code 360) 1803 = .ok (.iaload, 1) := by decide +kernel
theorem d360_1804 : decode (hs_code 360) 1804 = .ok (.invokevirtual 242, 3) := by decide +kernel
theorem d360_1807 : decode (hs_code 360) 1807 = .ok (.aload_n 2, 1) := by decide +kernel
theorem d360_1808 : decode (hs_code 360) 1808 = .ok (.aload_n 0, 1) := by decide +kernel
theorem d360_1809 : decode (hs_code 360) 1809 = .ok (.iload_n 3, 1) := by decide +kernel
theorem d360_1810 : decode (hs_code 360) 1810 = .ok (.iconst 1, 1) := by decide +kernel
theorem d360_1811 : decode (hs_code 360) 1811 = .ok (.iadd, 1) := by decide +kernel
theorem d360_1812 : decode (hs_code 360) 1812 = .ok (.iaload, 1) := by decide +kernel
theorem d360_1813 : decode (hs_code 360) 1813 = .ok (.aload_n 0, 1) := by decide +kernel
theorem d360_1814 : decode (hs_code 360) 1814 = .ok (.iload_n 3, 1) := by decide +kernel
theorem d360_1815 : decode (hs_code 360) 1815 = .ok (.iconst 2, 1) := by decide +kernel
theorem d360_1816 : decode (hs_code 360) 1816 = .ok (.iadd, 1) := by decide +kernel
theorem d360_1817 : decode (hs_code 360) 1817 = .ok (.iaload, 1) := by decide +kernel
theorem d360_1818 : decode (hs_code 360) 1818 = .ok (.invokevirtual 245, 3) := by decide +kernel
theorem d360_1821 : decode (hs_code 360) 1821 = .ok (.if_icmp .eq 133, 3) := by decide +kernel
theorem d360_1824 : decode (hs_code 360) 1824 = .ok (.iconst 0, 1) := by decide +kernel
theorem d360_1825 : decode (hs_code 360) 1825 = .ok (.ireturn, 1) := by decide +kernel
theorem d360_1826 : decode (hs_code 360) 1826 = .ok (.aload_n 1, 1) := by decide +kernel
theorem d360_1827 : decode (hs_code 360) 1827 = .ok (.aload_n 0, 1) := by decide +kernel
theorem d360_1828 : decode (hs_code 360) 1828 = .ok (.iload_n 3, 1) := by decide +kernel
theorem d360_1829 : decode (hs_code 360) 1829 = .ok (.iconst 1, 1) := by decide +kernel
theorem d360_1830 : decode (hs_code 360) 1830 = .ok (.iadd, 1) := by decide +kernel
theorem d360_1831 : decode (hs_code 360) 1831 = .ok (.iaload, 1) := by decide +kernel
theorem d360_1832 : decode (hs_code 360) 1832 = .ok (.invokevirtual 246, 3) := by decide +kernel
theorem d360_1835 : decode (hs_code 360) 1835 = .ok (.aload_n 2, 1) := by decide +kernel
theorem d360_1836 : decode (hs_code 360) 1836 = .ok (.aload_n 0, 1) := by decide +kernel
theorem d360_1837 : decode (hs_code 360) 1837 = .ok (.iload_n 3, 1) := by decide +kernel
theorem d360_1838 : decode (hs_code 360) 1838 = .ok (.iconst 1, 1) := by decide +kernel
theorem d360_1839 : decode (hs_code 360) 1839 = .ok (.iadd, 1) := by decide +kernel
theorem d360_1840 : decode (hs_code 360) 1840 = .ok (.iaload, 1) := by decide +kernel
theorem d360_1841 : decode (hs_code 360) 1841 = .ok (.invokevirtual 250, 3) := by decide +kernel
theorem d360_1844 : decode (hs_code 360) 1844 = .ok (.if_icmp .eq 110, 3) := by decide +kernel
theorem d360_1847 : decode (hs_code 360) 1847 = .ok (.iconst 0, 1) := by decide +kernel
theorem d360_1848 : decode (hs_code 360) 1848 = .ok (.ireturn, 1) := by decide +kernel
theorem d360_1849 : decode (hs_code 360) 1849 = .ok (.aload_n 1, 1) := by decide +kernel
theorem d360_1850 : decode (hs_code 360) 1850 = .ok (.aload_n 0, 1) := by decide +kernel
theorem d360_1851 : decode (hs_code 360) 1851 = .ok (.iload_n 3, 1) := by decide +kernel
theorem d360_1852 : decode (hs_code 360) 1852 = .ok (.iconst 1, 1) := by decide +kernel
theorem d360_1853 : decode (hs_code 360) 1853 = .ok (.iadd, 1) := by decide +kernel
theorem d360_1854 : decode (hs_code 360) 1854 = .ok (.iaload, 1) := by decide +kernel
theorem d360_1855 : decode (hs_code 360) 1855 = .ok (.invokevirtual 251, 3) := by decide +kernel
theorem d360_1858 : decode (hs_code 360) 1858 = .ok (.aload_n 2, 1) := by decide +kernel
theorem d360_1859 : decode (hs_code 360) 1859 = .ok (.aload_n 0, 1) := by decide +kernel
theorem d360_1860 : decode (hs_code 360) 1860 = .ok (.iload_n 3, 1) := by decide +kernel
theorem d360_1861 : decode (hs_code 360) 1861 = .ok (.iconst 1, 1) := by decide +kernel
theorem d360_1862 : decode (hs_code 360) 1862 = .ok (.iadd, 1) := by decide +kernel
theorem d360_1863 : decode (hs_code 360) 1863 = .ok (.iaload, 1) := by decide +kernel
theorem d360_1864 : decode (hs_code 360) 1864 = .ok (.invokevirtual 254, 3) := by decide +kernel
theorem d360_1867 : decode (hs_code 360) 1867 = .ok (.if_icmp .eq 87, 3) := by decide +kernel
theorem d360_1870 : decode (hs_code 360) 1870 = .ok (.iconst 0, 1) := by decide +kernel
theorem d360_1871 : decode (hs_code 360) 1871 = .ok (.ireturn, 1) := by decide +kernel
theorem d360_1872 : decode (hs_code 360) 1872 = .ok (.aload_n 1, 1) := by decide +kernel
theorem d360_1873 : decode (hs_code 360) 1873 = .ok (.aload_n 0, 1) := by decide +kernel
theorem d360_1874 : decode (hs_code 360) 1874 = .ok (.iload_n 3, 1) := by decide +kernel
theorem d360_1875 : decode (hs_code 360) 1875 = .ok (.iconst 1, 1) := by decide +kernel
theorem d360_1876 : decode (hs_code 360) 1876 = .ok (.iadd, 1) := by decide +kernel
theorem d360_1877 : decode (hs_code 360) 1877 = .ok (.iaload, 1) := by decide +kernel
theorem d360_1878 : decode (hs_code 360) 1878 = .ok (.invokevirtual 255, 3) := by decide +kernel
theorem d360_1881 : decode (hs_code 360) 1881 = .ok (.aload_n 2, 1) := by decide +kernel
theorem d360_1882 : decode (hs_code 360) 1882 = .ok (.aload_n 0, 1) := by decide +kernel
theorem d360_1883 : decode (hs_code 360) 1883 = .ok (.iload_n 3, 1) := by decide +kernel
theorem d360_1884 : decode (hs_code 360) 1884 = .ok (.iconst 1, 1) := by decide +kernel
theorem d360_1885 : decode (hs_code 360) 1885 = .ok (.iadd, 1) := by decide +kernel
theorem d360_1886 : decode (hs_code 360) 1886 = .ok (.iaload, 1) := by decide +kernel
theorem d360_1887 : decode (hs_code 360) 1887 = .ok (.invokevirtual 258, 3) := by decide +kernel
theorem d360_1890 : decode (hs_code 360) 1890 = .ok (.if_icmp .eq 64, 3) := by decide +kernel
theorem d360_1893 : decode (hs_code 360) 1893 = .ok (.iconst 0, 1) := by decide +kernel
theorem d360_1894 : decode (hs_code 360) 1894 = .ok (.ireturn, 1) := by decide +kernel
theorem d360_1895 : decode (hs_code 360) 1895 = .ok (.aload_n 1, 1) := by decide +kernel
theorem d360_1896 : decode (hs_code 360) 1896 = .ok (.aload_n 0, 1) := by decide +kernel
theorem d360_1897 : decode (hs_code 360) 1897 = .ok (.iload_n 3, 1) := by decide +kernel
theorem d360_1898 : decode (hs_code 360) 1898 = .ok (.iconst 1, 1) := by decide +kernel
theorem d360_1899 : decode (hs_code 360) 1899 = .ok (.iadd, 1) := by decide +kernel
theorem d360_19 : decode (hs_code 360) 19 = .ok (.aload_n 0, 1) := by decide +kernel
theorem d360_1900 : decode (hs_code 360) 1900 = .ok (.iaload, 1) := by decide +kernel
theorem d360_1901 : decode (hs_code 360) 1901 = .ok (.aload_n 0, 1) := by decide +kernel
theorem d360_1902 : decode (hs_code 360) 1902 = .ok (.iload_n 3, 1) := by decide +kernel
theorem d360_1903 : decode (hs_code 360) 1903 = .ok (.iconst 2, 1) := by decide +kernel
theorem d360_1904 : decode (hs_code 360) 1904 = .ok (.iadd, 1) := by decide +kernel
theorem d360_1905 : decode (hs_code 360) 1905 = .ok (.iaload, 1) := by decide +kernel
theorem d360_1906 : decode (hs_code 360) 1906 = .ok (.invokevirtual 259, 3) := by decide +kernel
theorem d360_1909 : decode (hs_code 360) 1909 = .ok (.aload_n 2, 1) := by decide +kernel
theorem d360_1910 : decode (hs_code 360) 1910 = .ok (.aload_n 0, 1) := by decide +kernel
theorem d360_1911 : decode (hs_code 360) 1911 = .ok (.iload_n 3, 1) := by decide +kernel
theorem d360_1912 : decode (hs_code 360) 1912 = .ok (.iconst 1, 1) := by decide +kernel
theorem d360_1913 : decode (hs_code 360) 1913 = .ok (.iadd, 1) := by decide +kernel
theorem d360_1914 : decode (hs_code 360) 1914 = .ok (.iaload, 1) := by decide +kernel
theorem d360_1915 : decode (hs_code 360) 1915 = .ok (.aload_n 0, 1) := by decide +kernel
theorem d360_1916 : decode (hs_code 360) 1916 = .ok (.iload_n 3, 1) := by decide +kernel
theorem d360_1917 : decode (hs_code 360) 1917 = .ok (.iconst 2, 1) := by decide +kernel
theorem d360_1918 : decode (hs_code 360) 1918 = .ok (.iadd, 1) := by decide +kernel
theorem d360_1919 : decode (hs_code 360) 1919 = .ok (.iaload, 1) := by decide +kernel
theorem d360_1920 : decode (hs_code 360) 1920 = .ok (.invokevirtual 262, 3) := by decide +kernel
theorem d360_1923 : decode (hs_code 360) 1923 = .ok (.if_icmp .eq 31, 3) := by decide +kernel
theorem d360_1926 : decode (hs_code 360) 1926 = .ok (.iconst 0, 1) := by decide +kernel
theorem d360_1927 : decode (hs_code 360) 1927 = .ok (.ireturn, 1) := by decide +kernel
theorem d360_1928 : decode (hs_code 360) 1928 = .ok (.aload_n 1, 1) := by decide +kernel
theorem d360_1929 : decode (hs_code 360) 1929 = .ok (.invokevirtual 263, 3) := by decide +kernel
theorem d360_1932 : decode (hs_code 360) 1932 = .ok (.aload_n 2, 1) := by decide +kernel
theorem d360_1933 : decode (hs_code 360) 1933 = .ok (.invokevirtual 266, 3) := by decide +kernel
theorem d360_1936 : decode (hs_code 360) 1936 = .ok (.if_icmp .eq 18, 3) := by decide +kernel
theorem d360_1939 : decode (hs_code 360) 1939 = .ok (.iconst 0, 1) := by decide +kernel
theorem d360_1940 : decode (hs_code 360) 1940 = .ok (.ireturn, 1) := by decide +kernel
theorem d360_1941 : decode (hs_code 360) 1941 = .ok (.aload_n 1, 1) := by decide +kernel
theorem d360_1942 : decode (hs_code 360) 1942 = .ok (.invokevirtual 267, 3) := by decide +kernel
theorem d360_1945 : decode (hs_code 360) 1945 = .ok (.aload_n 2, 1) := by decide +kernel
theorem d360_1946 : decode (hs_code 360) 1946 = .ok (.invokevirtual 270, 3) := by decide +kernel
theorem d360_1949 : decode (hs_code 360) 1949 = .ok (.if_icmp .eq 5, 3) := by decide +kernel
theorem d360_1952 : decode (hs_code 360) 1952 = .ok (.iconst 0, 1) := by decide +kernel
theorem d360_1953 : decode (hs_code 360) 1953 = .ok (.ireturn, 1) := by decide +kernel
theorem d360_1954 : decode (hs_code 360) 1954 = .ok (.iinc 3 6, 3) := by decide +kernel
theorem d360_1957 : decode (hs_code 360) 1957 = .ok (.goto (-1939), 3) := by decide +kernel
theorem d360_1960 : decode (hs_code 360) 1960 = .ok (.iconst 1, 1) := by decide +kernel
theorem d360_1961 : decode (hs_code 360) 1961 = .ok (.ireturn, 1) := by decide +kernel
theorem d360_20 : decode (hs_code 360) 20 = .ok (.arraylength, 1) := by decide +kernel
theorem d360_21 : decode (hs_code 360) 21 = .ok (.bipush 6, 2) := by decide +kernel
theorem d360_23 : decode (hs_code 360) 23 = .ok (.isub, 1) := by decide +kernel
theorem d360_24 : decode (hs_code 360) 24 = .ok (.if_icmp .gt 1936, 3) := by decide +kernel
theorem d360_27 : decode (hs_code 360) 27 = .ok (.aload_n 0, 1) := by decide +kernel
theorem d360_28 : decode (hs_code 360) 28 = .ok (.iload_n 3, 1) := by decide +kernel
theorem d360_29 : decode (hs_code 360) 29 = .ok (.iaload, 1) := by decide +kernel
theorem d360_292 : decode (hs_code 360) 292 = .ok (.aload_n 1, 1) := by decide +kernel
theorem d360_293 : decode (hs_code 360) 293 = .ok (.invokevirtual 13, 3) := by decide +kernel
theorem d360_296 : decode (hs_code 360) 296 = .ok (.aload_n 2, 1) := by decide +kernel
theorem d360_297 : decode (hs_code 360) 297 = .ok (.invokevirtual 17, 3) := by decide +kernel
theorem d360_30 : decode (hs_code 360) 30 = .ok (.bipush 63, 2) := by decide +kernel
theorem d360_300 : decode (hs_code 360) 300 = .ok (.if_icmp .eq 1654, 3) := by decide +kernel
theorem d360_303 : decode (hs_code 360) 303 = .ok (.iconst 0, 1) := by decide +kernel
theorem d360_304 : decode (hs_code 360) 304 = .ok (.ireturn, 1) := by decide +kernel
theorem d360_305 : decode (hs_code 360) 305 = .ok (.aload_n 1, 1) := by decide +kernel
theorem d360_306 : decode (hs_code 360) 306 = .ok (.invokevirtual 18, 3) := by decide +kernel
theorem d360_309 : decode (hs_code 360) 309 = .ok (.aload_n 2, 1) := by decide +kernel
theorem d360_310 : decode (hs_code 360) 310 = .ok (.invokevirtual 22, 3) := by decide +kernel
theorem d360_313 : decode (hs_code 360) 313 = .ok (.lcmp, 1) := by decide +kernel
theorem d360_314 : decode (hs_code 360) 314 = .ok (.ifCond .eq 1640, 3) := by decide +kernel
theorem d360_317 : decode (hs_code 360) 317 = .ok (.iconst 0, 1) := by decide +kernel
theorem d360_318 : decode (hs_code 360) 318 = .ok (.ireturn, 1) := by decide +kernel
theorem d360_319 : decode (hs_code 360) 319 = .ok (.aload_n 1, 1) := by decide +kernel
theorem d360_32 : decode (hs_code 360) 32 = .ok (.iand, 1) := by decide +kernel
theorem d360_320 : decode (hs_code 360) 320 = .ok (.invokevirtual 23, 3) := by decide +kernel
theorem d360_323 : decode (hs_code 360) 323 = .ok (.aload_n 2, 1) := by decide +kernel
theorem d360_324 : decode (hs_code 360) 324 = .ok (.invokevirtual 26, 3) := by decide +kernel
theorem d360_327 : decode (hs_code 360) 327 = .ok (.lcmp, 1) := by decide +kernel
theorem d360_328 : decode (hs_code 360) 328 = .ok (.ifCond .eq 1626, 3) := by decide +kernel
theorem d360_33 : decode (hs_code 360) 33 = .ok (.tableswitch 1921 0 60 #[259, 272, 286, 300, 343, 416, 450, 513, 576, 599, 622, 645, 668, 701, 734, 747, 770, 803, 836, 859, 882, 921, 954, 987, 1020, 1033, 1066, 1099, 1132, 1175, 1208, 1231, 1244, 1267, 1290, 1313, 1336, 1369, 1402, 1435, 1468, 1481, 1504, 1537, 1560, 1583, 1606, 1619, 1632, 1665, 1678, 1691, 1714, 1737, 1760, 1793, 1816, 1839, 1862, 1895, 1908], 259) := by decide +kernel
theorem d360_331 : decode (hs_code 360) 331 = .ok (.iconst 0, 1) := by decide +kernel
theorem d360_332 : decode (hs_code 360) 332 = .ok (.ireturn, 1) := by decide +kernel
theorem d360_333 : decode (hs_code 360) 333 = .ok (.aload_n 1, 1) := by decide +kernel
theorem d360_334 : decode (hs_code 360) 334 = .ok (.aload_n 0, 1) := by decide +kernel
theorem d360_335 : decode (hs_code 360) 335 = .ok (.iload_n 3, 1) := by decide +kernel
theorem d360_336 : decode (hs_code 360) 336 = .ok (.iconst 1, 1) := by decide +kernel
theorem d360_337 : decode (hs_code 360) 337 = .ok (.iadd, 1) := by decide +kernel
theorem d360_338 : decode (hs_code 360) 338 = .ok (.iaload, 1) := by decide +kernel
theorem d360_339 : decode (hs_code 360) 339 = .ok (.aload_n 0, 1) := by decide +kernel
theorem d360_340 : decode (hs_code 360) 340 = .ok (.iload_n 3, 1) := by decide +kernel
theorem d360_341 : decode (hs_code 360) 341 = .ok (.iconst 2, 1) := by decide +kernel
theorem d360_342 : decode (hs_code 360) 342 = .ok (.iadd, 1) := by decide +kernel
theorem d360_343 : decode (hs_code 360) 343 = .ok (.iaload, 1) := by decide +kernel
theorem d360_344 : decode (hs_code 360) 344 = .ok (.aload_n 0, 1) := by decide +kernel
theorem d360_345 : decode (hs_code 360) 345 = .ok (.iload_n 3, 1) := by decide +kernel
theorem d360_346 : decode (hs_code 360) 346 = .ok (.iconst 3, 1) := by decide +kernel
theorem d360_347 : decode (hs_code 360) 347 = .ok (.iadd, 1) := by decide +kernel
theorem d360_348 : decode (hs_code 360) 348 = .ok (.iaload, 1) := by decide +kernel
theorem d360_349 : decode (hs_code 360) 349 = .ok (.invokevirtual 27, 3) := by decide +kernel
theorem d360_352 : decode (hs_code 360) 352 = .ok (.aload_n 2, 1) := by decide +kernel
theorem d360_353 : decode (hs_code 360) 353 = .ok (.aload_n 0, 1) := by decide +kernel
theorem d360_354 : decode (hs_code 360) 354 = .ok (.iload_n 3, 1) := by decide +kernel
theorem d360_355 : decode (hs_code 360) 355 = .ok (.iconst 1, 1) := by decide +kernel
theorem d360_356 : decode (hs_code 360) 356 = .ok (.iadd, 1) := by decide +kernel
theorem d360_357 : decode (hs_code 360) 357 = .ok (.iaload, 1) := by decide +kernel
theorem d360_358 : decode (hs_code 360) 358 = .ok (.aload_n 0, 1) := by decide +kernel
theorem d360_359 : decode (hs_code 360) 359 = .ok (.iload_n 3, 1) := by decide +kernel
theorem d360_360 : decode (hs_code 360) 360 = .ok (.iconst 2, 1) := by decide +kernel
theorem d360_361 : decode (hs_code 360) 361 = .ok (.iadd, 1) := by decide +kernel
theorem d360_362 : decode (hs_code 360) 362 = .ok (.iaload, 1) := by decide +kernel
theorem d360_363 : decode (hs_code 360) 363 = .ok (.aload_n 0, 1) := by decide +kernel
theorem d360_364 : decode (hs_code 360) 364 = .ok (.iload_n 3, 1) := by decide +kernel
theorem d360_365 : decode (hs_code 360) 365 = .ok (.iconst 3, 1) := by decide +kernel
theorem d360_366 : decode (hs_code 360) 366 = .ok (.iadd, 1) := by decide +kernel
theorem d360_367 : decode (hs_code 360) 367 = .ok (.iaload, 1) := by decide +kernel
theorem d360_368 : decode (hs_code 360) 368 = .ok (.invokevirtual 31, 3) := by decide +kernel
theorem d360_371 : decode (hs_code 360) 371 = .ok (.if_icmp .eq 1583, 3) := by decide +kernel
theorem d360_374 : decode (hs_code 360) 374 = .ok (.iconst 0, 1) := by decide +kernel
theorem d360_375 : decode (hs_code 360) 375 = .ok (.ireturn, 1) := by decide +kernel
theorem d360_376 : decode (hs_code 360) 376 = .ok (.aload_n 1, 1) := by decide +kernel
theorem d360_377 : decode (hs_code 360) 377 = .ok (.aload_n 0, 1) := by decide +kernel
theorem d360_378 : decode (hs_code 360) 378 = .ok (.iload_n 3, 1) := by decide +kernel
theorem d360_379 : decode (hs_code 360) 379 = .ok (.iconst 1, 1) := by decide +kernel
theorem d360_380 : decode (hs_code 360) 380 = .ok (.iadd, 1) := by decide +kernel
theorem d360_381 : decode (hs_code 360) 381 = .ok (.iaload, 1) := by decide +kernel
theorem d360_382 : decode (hs_code 360) 382 = .ok (.aload_n 0, 1) := by decide +kernel
theorem d360_383 : decode (hs_code 360) 383 = .ok (.iload_n 3, 1) := by decide +kernel
theorem d360_384 : decode (hs_code 360) 384 = .ok (.iconst 2, 1) := by decide +kernel
theorem d360_385 : decode (hs_code 360) 385 = .ok (.iadd, 1) := by decide +kernel
theorem d360_386 : decode (hs_code 360) 386 = .ok (.iaload, 1) := by decide +kernel
theorem d360_387 : decode (hs_code 360) 387 = .ok (.aload_n 0, 1) := by decide +kernel
theorem d360_388 : decode (hs_code 360) 388 = .ok (.iload_n 3, 1) := by decide +kernel
theorem d360_389 : decode (hs_code 360) 389 = .ok (.iconst 3, 1) := by decide +kernel
theorem d360_390 : decode (hs_code 360) 390 = .ok (.iadd, 1) := by decide +kernel
theorem d360_391 : decode (hs_code 360) 391 = .ok (.iaload, 1) := by decide +kernel
theorem d360_392 : decode (hs_code 360) 392 = .ok (.i2l, 1) := by decide +kernel
theorem d360_393 : decode (hs_code 360) 393 = .ok (.bipush 32, 2) := by decide +kernel
theorem d360_395 : decode (hs_code 360) 395 = .ok (.lshl, 1) := by decide +kernel
theorem d360_396 : decode (hs_code 360) 396 = .ok (.aload_n 0, 1) := by decide +kernel
theorem d360_397 : decode (hs_code 360) 397 = .ok (.iload_n 3, 1) := by decide +kernel
theorem d360_398 : decode (hs_code 360) 398 = .ok (.iconst 4, 1) := by decide +kernel
theorem d360_399 : decode (hs_code 360) 399 = .ok (.iadd, 1) := by decide +kernel
theorem d360_400 : decode (hs_code 360) 400 = .ok (.iaload, 1) := by decide +kernel
theorem d360_401 : decode (hs_code 360) 401 = .ok (.i2l, 1) := by decide +kernel
theorem d360_402 : decode (hs_code 360) 402 = .ok (.ldc2_w 32, 3) := by decide +kernel
theorem d360_405 : decode (hs_code 360) 405 = .ok (.land, 1) := by decide +kernel
theorem d360_406 : decode (hs_code 360) 406 = .ok (.lor, 1) := by decide +kernel
theorem d360_407 : decode (hs_code 360) 407 = .ok (.invokevirtual 34, 3) := by decide +kernel
theorem d360_410 : decode (hs_code 360) 410 = .ok (.aload_n 2, 1) := by decide +kernel
theorem d360_411 : decode (hs_code 360) 411 = .ok (.aload_n 0, 1) := by decide +kernel
theorem d360_412 : decode (hs_code 360) 412 = .ok (.iload_n 3, 1) := by decide +kernel
theorem d360_413 : decode (hs_code 360) 413 = .ok (.iconst 1, 1) := by decide +kernel
theorem d360_414 : decode (hs_code 360) 414 = .ok (.iadd, 1) := by decide +kernel
theorem d360_415 : decode (hs_code 360) 415 = .ok (.iaload, 1) := by decide +kernel
theorem d360_416 : decode (hs_code 360) 416 = .ok (.aload_n 0, 1) := by decide +kernel
theorem d360_417 : decode (hs_code 360) 417 = .ok (.iload_n 3, 1) := by decide +kernel
theorem d360_418 : decode (hs_code 360) 418 = .ok (.iconst 2, 1) := by decide +kernel
theorem d360_419 : decode (hs_code 360) 419 = .ok (.iadd, 1) := by decide +kernel
theorem d360_420 : decode (hs_code 360) 420 = .ok (.iaload, 1) := by decide +kernel
theorem d360_421 : decode (hs_code 360) 421 = .ok (.aload_n 0, 1) := by decide +kernel
theorem d360_422 : decode (hs_code 360) 422 = .ok (.iload_n 3, 1) := by decide +kernel
theorem d360_423 : decode (hs_code 360) 423 = .ok (.iconst 3, 1) := by decide +kernel
theorem d360_424 : decode (hs_code 360) 424 = .ok (.iadd, 1) := by decide +kernel
theorem d360_425 : decode (hs_code 360) 425 = .ok (.iaload, 1) := by decide +kernel
theorem d360_426 : decode (hs_code 360) 426 = .ok (.i2l, 1) := by decide +kernel
theorem d360_427 : decode (hs_code 360) 427 = .ok (.bipush 32, 2) := by decide +kernel
theorem d360_429 : decode (hs_code 360) 429 = .ok (.lshl, 1) := by decide +kernel
theorem d360_430 : decode (hs_code 360) 430 = .ok (.aload_n 0, 1) := by decide +kernel
theorem d360_431 : decode (hs_code 360) 431 = .ok (.iload_n 3, 1) := by decide +kernel
theorem d360_432 : decode (hs_code 360) 432 = .ok (.iconst 4, 1) := by decide +kernel
theorem d360_433 : decode (hs_code 360) 433 = .ok (.iadd, 1) := by decide +kernel
theorem d360_434 : decode (hs_code 360) 434 = .ok (.iaload, 1) := by decide +kernel
theorem d360_435 : decode (hs_code 360) 435 = .ok (.i2l, 1) := by decide +kernel
theorem d360_436 : decode (hs_code 360) 436 = .ok (.ldc2_w 32, 3) := by decide +kernel
theorem d360_439 : decode (hs_code 360) 439 = .ok (.land, 1) := by decide +kernel
theorem d360_440 : decode (hs_code 360) 440 = .ok (.lor, 1) := by decide +kernel
theorem d360_441 : decode (hs_code 360) 441 = .ok (.invokevirtual 38, 3) := by decide +kernel
theorem d360_444 : decode (hs_code 360) 444 = .ok (.if_icmp .eq 1510, 3) := by decide +kernel
theorem d360_447 : decode (hs_code 360) 447 = .ok (.iconst 0, 1) := by decide +kernel
theorem d360_448 : decode (hs_code 360) 448 = .ok (.ireturn, 1) := by decide +kernel
theorem d360_449 : decode (hs_code 360) 449 = .ok (.aload_n 1, 1) := by decide +kernel
theorem d360_450 : decode (hs_code 360) 450 = .ok (.aload_n 0, 1) := by decide +kernel
theorem d360_451 : decode (hs_code 360) 451 = .ok (.iload_n 3, 1) := by decide +kernel
theorem d360_452 : decode (hs_code 360) 452 = .ok (.iconst 1, 1) := by decide +kernel
theorem d360_453 : decode (hs_code 360) 453 = .ok (.iadd, 1) := by decide +kernel
theorem d360_454 : decode (hs_code 360) 454 = .ok (.iaload, 1) := by decide +kernel
theorem d360_455 : decode (hs_code 360) 455 = .ok (.aload_n 0, 1) := by decide +kernel
theorem d360_456 : decode (hs_code 360) 456 = .ok (.iload_n 3, 1) := by decide +kernel
theorem d360_457 : decode (hs_code 360) 457 = .ok (.iconst 2, 1) := by decide +kernel
theorem d360_458 : decode (hs_code 360) 458 = .ok (.iadd, 1) := by decide +kernel
theorem d360_459 : decode (hs_code 360) 459 = .ok (.iaload, 1) := by decide +kernel
theorem d360_460 : decode (hs_code 360) 460 = .ok (.invokevirtual 39, 3) := by decide +kernel
theorem d360_463 : decode (hs_code 360) 463 = .ok (.aload_n 2, 1) := by decide +kernel
theorem d360_464 : decode (hs_code 360) 464 = .ok (.aload_n 0, 1) := by decide +kernel
theorem d360_465 : decode (hs_code 360) 465 = .ok (.iload_n 3, 1) := by decide +kernel
theorem d360_466 : decode (hs_code 360) 466 = .ok (.iconst 1, 1) := by decide +kernel
theorem d360_467 : decode (hs_code 360) 467 = .ok (.iadd, 1) := by decide +kernel
theorem d360_468 : decode (hs_code 360) 468 = .ok (.iaload, 1) := by decide +kernel
theorem d360_469 : decode (hs_code 360) 469 = .ok (.aload_n 0, 1) := by decide +kernel
theorem d360_470 : decode (hs_code 360) 470 = .ok (.iload_n 3, 1) := by decide +kernel
theorem d360_471 : decode (hs_code 360) 471 = .ok (.iconst 2, 1) := by decide +kernel
theorem d360_472 : decode (hs_code 360) 472 = .ok (.iadd, 1) := by decide +kernel
theorem d360_473 : decode (hs_code 360) 473 = .ok (.iaload, 1) := by decide +kernel
theorem d360_474 : decode (hs_code 360) 474 = .ok (.invokevirtual 43, 3) := by decide +kernel
theorem d360_477 : decode (hs_code 360) 477 = .ok (.lcmp, 1) := by decide +kernel
theorem d360_478 : decode (hs_code 360) 478 = .ok (.ifCond .eq 1476, 3) := by decide +kernel
theorem d360_481 : decode (hs_code 360) 481 = .ok (.iconst 0, 1) := by decide +kernel
theorem d360_482 : decode (hs_code 360) 482 = .ok (.ireturn, 1) := by decide +kernel
theorem d360_483 : decode (hs_code 360) 483 = .ok (.aload_n 1, 1) := by decide +kernel
theorem d360_484 : decode (hs_code 360) 484 = .ok (.aload_n 0, 1) := by decide +kernel
theorem d360_485 : decode (hs_code 360) 485 = .ok (.iload_n 3, 1) := by decide +kernel
theorem d360_486 : decode (hs_code 360) 486 = .ok (.iconst 1, 1) := by decide +kernel
theorem d360_487 : decode (hs_code 360) 487 = .ok (.iadd, 1) := by decide +kernel
theorem d360_488 : decode (hs_code 360) 488 = .ok (.iaload, 1) := by decide +kernel
theorem d360_489 : decode (hs_code 360) 489 = .ok (.aload_n 0, 1) := by decide +kernel
theorem d360_490 : decode (hs_code 360) 490 = .ok (.iload_n 3, 1) := by decide +kernel
theorem d360_491 : decode (hs_code 360) 491 = .ok (.iconst 2, 1) := by decide +kernel
theorem d360_492 : decode (hs_code 360) 492 = .ok (.iadd, 1) := by decide +kernel
theorem d360_493 : decode (hs_code 360) 493 = .ok (.iaload, 1) := by decide +kernel
theorem d360_494 : decode (hs_code 360) 494 = .ok (.aload_n 0, 1) := by decide +kernel
theorem d360_495 : decode (hs_code 360) 495 = .ok (.iload_n 3, 1) := by decide +kernel
theorem d360_496 : decode (hs_code 360) 496 = .ok (.iconst 3, 1) := by decide +kernel
theorem d360_497 : decode (hs_code 360) 497 = .ok (.iadd, 1) := by decide +kernel
theorem d360_498 : decode (hs_code 360) 498 = .ok (.iaload, 1) := by decide +kernel
theorem d360_499 : decode (hs_code 360) 499 = .ok (.aload_n 0, 1) := by decide +kernel
theorem d360_500 : decode (hs_code 360) 500 = .ok (.iload_n 3, 1) := by decide +kernel
theorem d360_501 : decode (hs_code 360) 501 = .ok (.iconst 4, 1) := by decide +kernel
theorem d360_502 : decode (hs_code 360) 502 = .ok (.iadd, 1) := by decide +kernel
theorem d360_503 : decode (hs_code 360) 503 = .ok (.iaload, 1) := by decide +kernel
theorem d360_504 : decode (hs_code 360) 504 = .ok (.aload_n 0, 1) := by decide +kernel
theorem d360_505 : decode (hs_code 360) 505 = .ok (.iload_n 3, 1) := by decide +kernel
theorem d360_506 : decode (hs_code 360) 506 = .ok (.iconst 5, 1) := by decide +kernel
theorem d360_507 : decode (hs_code 360) 507 = .ok (.iadd, 1) := by decide +kernel
theorem d360_508 : decode (hs_code 360) 508 = .ok (.iaload, 1) := by decide +kernel
theorem d360_509 : decode (hs_code 360) 509 = .ok (.invokevirtual 44, 3) := by decide +kernel
theorem d360_512 : decode (hs_code 360) 512 = .ok (.aload_n 2, 1) := by decide +kernel
theorem d360_513 : decode (hs_code 360) 513 = .ok (.aload_n 0, 1) := by decide +kernel
theorem d360_514 : decode (hs_code 360) 514 = .ok (.iload_n 3, 1) := by decide +kernel
theorem d360_515 : decode (hs_code 360) 515 = .ok (.iconst 1, 1) := by decide +kernel
theorem d360_516 : decode (hs_code 360) 516 = .ok (.iadd, 1) := by decide +kernel
theorem d360_517 : decode (hs_code 360) 517 = .ok (.iaload, 1) := by decide +kernel
theorem d360_518 : decode (hs_code 360) 518 = .ok (.aload_n 0, 1) := by decide +kernel
theorem d360_519 : decode (hs_code 360) 519 = .ok (.iload_n 3, 1) := by decide +kernel
theorem d360_520 : decode (hs_code 360) 520 = .ok (.iconst 2, 1) := by decide +kernel
theorem d360_521 : decode (hs_code 360) 521 = .ok (.iadd, 1) := by decide +kernel
theorem d360_522 : decode (hs_code 360) 522 = .ok (.iaload, 1) := by decide +kernel
theorem d360_523 : decode (hs_code 360) 523 = .ok (.aload_n 0, 1) := by decide +kernel
theorem d360_524 : decode (hs_code 360) 524 = .ok (.iload_n 3, 1) := by decide +kernel
theorem d360_525 : decode (hs_code 360) 525 = .ok (.iconst 3, 1) := by decide +kernel
theorem d360_526 : decode (hs_code 360) 526 = .ok (.iadd, 1) := by decide +kernel
theorem d360_527 : decode (hs_code 360) 527 = .ok (.iaload, 1) := by decide +kernel
theorem d360_528 : decode (hs_code 360) 528 = .ok (.aload_n 0, 1) := by decide +kernel
theorem d360_529 : decode (hs_code 360) 529 = .ok (.iload_n 3, 1) := by decide +kernel
theorem d360_530 : decode (hs_code 360) 530 = .ok (.iconst 4, 1) := by decide +kernel
theorem d360_531 : decode (hs_code 360) 531 = .ok (.iadd, 1) := by decide +kernel
theorem d360_532 : decode (hs_code 360) 532 = .ok (.iaload, 1) := by decide +kernel
theorem d360_533 : decode (hs_code 360) 533 = .ok (.aload_n 0, 1) := by decide +kernel
theorem d360_534 : decode (hs_code 360) 534 = .ok (.iload_n 3, 1) := by decide +kernel
theorem d360_535 : decode (hs_code 360) 535 = .ok (.iconst 5, 1) := by decide +kernel
theorem d360_536 : decode (hs_code 360) 536 = .ok (.iadd, 1) := by decide +kernel
theorem d360_537 : decode (hs_code 360) 537 = .ok (.iaload, 1) := by decide +kernel
theorem d360_538 : decode (hs_code 360) 538 = .ok (.invokevirtual 48, 3) := by decide +kernel
theorem d360_541 : decode (hs_code 360) 541 = .ok (.if_icmp .eq 1413, 3) := by decide +kernel
theorem d360_544 : decode (hs_code 360) 544 = .ok (.iconst 0, 1) := by decide +kernel
theorem d360_545 : decode (hs_code 360) 545 = .ok (.ireturn, 1) := by decide +kernel
theorem d360_546 : decode (hs_code 360) 546 = .ok (.aload_n 1, 1) := by decide +kernel
theorem d360_547 : decode (hs_code 360) 547 = .ok (.aload_n 0, 1) := by decide +kernel
theorem d360_548 : decode (hs_code 360) 548 = .ok (.iload_n 3, 1) := by decide +kernel
theorem d360_549 : decode (hs_code 360) 549 = .ok (.iconst 1, 1) := by decide +kernel
theorem d360_550 : decode (hs_code 360) 550 = .ok (.iadd, 1) := by decide +kernel
theorem d360_551 : decode (hs_code 360) 551 = .ok (.iaload, 1) := by decide +kernel
theorem d360_552 : decode (hs_code 360) 552 = .ok (.aload_n 0, 1) := by decide +kernel
theorem d360_553 : decode (hs_code 360) 553 = .ok (.iload_n 3, 1) := by decide +kernel
theorem d360_554 : decode (hs_code 360) 554 = .ok (.iconst 2, 1) := by decide +kernel
theorem d360_555 : decode (hs_code 360) 555 = .ok (.iadd, 1) := by decide +kernel
theorem d360_556 : decode (hs_code 360) 556 = .ok (.iaload, 1) := by decide +kernel
theorem d360_557 : decode (hs_code 360) 557 = .ok (.aload_n 0, 1) := by decide +kernel
theorem d360_558 : decode (hs_code 360) 558 = .ok (.iload_n 3, 1) := by decide +kernel
theorem d360_559 : decode (hs_code 360) 559 = .ok (.iconst 3, 1) := by decide +kernel
theorem d360_560 : decode (hs_code 360) 560 = .ok (.iadd, 1) := by decide +kernel
theorem d360_561 : decode (hs_code 360) 561 = .ok (.iaload, 1) := by decide +kernel
theorem d360_562 : decode (hs_code 360) 562 = .ok (.aload_n 0, 1) := by decide +kernel
theorem d360_563 : decode (hs_code 360) 563 = .ok (.iload_n 3, 1) := by decide +kernel
theorem d360_564 : decode (hs_code 360) 564 = .ok (.iconst 4, 1) := by decide +kernel
theorem d360_565 : decode (hs_code 360) 565 = .ok (.iadd, 1) := by decide +kernel
theorem d360_566 : decode (hs_code 360) 566 = .ok (.iaload, 1) := by decide +kernel
theorem d360_567 : decode (hs_code 360) 567 = .ok (.aload_n 0, 1) := by decide +kernel
theorem d360_568 : decode (hs_code 360) 568 = .ok (.iload_n 3, 1) := by decide +kernel
theorem d360_569 : decode (hs_code 360) 569 = .ok (.iconst 5, 1) := by decide +kernel
theorem d360_570 : decode (hs_code 360) 570 = .ok (.iadd, 1) := by decide +kernel
theorem d360_571 : decode (hs_code 360) 571 = .ok (.iaload, 1) := by decide +kernel
theorem d360_572 : decode (hs_code 360) 572 = .ok (.invokevirtual 49, 3) := by decide +kernel
theorem d360_575 : decode (hs_code 360) 575 = .ok (.aload_n 2, 1) := by decide +kernel
theorem d360_576 : decode (hs_code 360) 576 = .ok (.aload_n 0, 1) := by decide +kernel
theorem d360_577 : decode (hs_code 360) 577 = .ok (.iload_n 3, 1) := by decide +kernel
theorem d360_578 : decode (hs_code 360) 578 = .ok (.iconst 1, 1) := by decide +kernel
theorem d360_579 : decode (hs_code 360) 579 = .ok (.iadd, 1) := by decide +kernel
theorem d360_580 : decode (hs_code 360) 580 = .ok (.iaload, 1) := by decide +kernel
theorem d360_581 : decode (hs_code 360) 581 = .ok (.aload_n 0, 1) := by decide +kernel
theorem d360_582 : decode (hs_code 360) 582 = .ok (.iload_n 3, 1) := by decide +kernel
theorem d360_583 : decode (hs_code 360) 583 = .ok (.iconst 2, 1) := by decide +kernel
theorem d360_584 : decode (hs_code 360) 584 = .ok (.iadd, 1) := by decide +kernel
theorem d360_585 : decode (hs_code 360) 585 = .ok (.iaload, 1) := by decide +kernel
theorem d360_586 : decode (hs_code 360) 586 = .ok (.aload_n 0, 1) := by decide +kernel
theorem d360_587 : decode (hs_code 360) 587 = .ok (.iload_n 3, 1) := by decide +kernel
theorem d360_588 : decode (hs_code 360) 588 = .ok (.iconst 3, 1) := by decide +kernel
theorem d360_589 : decode (hs_code 360) 589 = .ok (.iadd, 1) := by decide +kernel
theorem d360_590 : decode (hs_code 360) 590 = .ok (.iaload, 1) := by decide +kernel
theorem d360_591 : decode (hs_code 360) 591 = .ok (.aload_n 0, 1) := by decide +kernel
theorem d360_592 : decode (hs_code 360) 592 = .ok (.iload_n 3, 1) := by decide +kernel
theorem d360_593 : decode (hs_code 360) 593 = .ok (.iconst 4, 1) := by decide +kernel
theorem d360_594 : decode (hs_code 360) 594 = .ok (.iadd, 1) := by decide +kernel
theorem d360_595 : decode (hs_code 360) 595 = .ok (.iaload, 1) := by decide +kernel
theorem d360_596 : decode (hs_code 360) 596 = .ok (.aload_n 0, 1) := by decide +kernel
theorem d360_597 : decode (hs_code 360) 597 = .ok (.iload_n 3, 1) := by decide +kernel
theorem d360_598 : decode (hs_code 360) 598 = .ok (.iconst 5, 1) := by decide +kernel
theorem d360_599 : decode (hs_code 360) 599 = .ok (.iadd, 1) := by decide +kernel
theorem d360_600 : decode (hs_code 360) 600 = .ok (.iaload, 1) := by decide +kernel
theorem d360_601 : decode (hs_code 360) 601 = .ok (.invokevirtual 53, 3) := by decide +kernel
theorem d360_604 : decode (hs_code 360) 604 = .ok (.if_icmp .eq 1350, 3) := by decide +kernel
theorem d360_607 : decode (hs_code 360) 607 = .ok (.iconst 0, 1) := by decide +kernel
theorem d360_608 : decode (hs_code 360) 608 = .ok (.ireturn, 1) := by decide +kernel
theorem d360_609 : decode (hs_code 360) 609 = .ok (.aload_n 1, 1) := by decide +kernel
theorem d360_610 : decode (hs_code 360) 610 = .ok (.aload_n 0, 1) := by decide +kernel
theorem d360_611 : decode (hs_code 360) 611 = .ok (.iload_n 3, 1) := by decide +kernel
theorem d360_612 : decode (hs_code 360) 612 = .ok (.iconst 1, 1) := by decide +kernel
theorem d360_613 : decode (hs_code 360) 613 = .ok (.iadd, 1) := by decide +kernel
theorem d360_614 : decode (hs_code 360) 614 = .ok (.iaload, 1) := by decide +kernel
theorem d360_615 : decode (hs_code 360) 615 = .ok (.invokevirtual 54, 3) := by decide +kernel
theorem d360_618 : decode (hs_code 360) 618 = .ok (.aload_n 2, 1) := by decide +kernel
theorem d360_619 : decode (hs_code 360) 619 = .ok (.aload_n 0, 1) := by decide +kernel
theorem d360_620 : decode (hs_code 360) 620 = .ok (.iload_n 3, 1) := by decide +kernel
theorem d360_621 : decode (hs_code 360) 621 = .ok (.iconst 1, 1) := by decide +kernel
theorem d360_622 : decode (hs_code 360) 622 = .ok (.iadd, 1) := by decide +kernel
theorem d360_623 : decode (hs_code 360) 623 = .ok (.iaload, 1) := by decide +kernel
theorem d360_624 : decode (hs_code 360) 624 = .ok (.invokevirtual 58, 3) := by decide +kernel
theorem d360_627 : decode (hs_code 360) 627 = .ok (.if_icmp .eq 1327, 3) := by decide +kernel
theorem d360_630 : decode (hs_code 360) 630 = .ok (.iconst 0, 1) := by decide +kernel
theorem d360_631 : decode (hs_code 360) 631 = .ok (.ireturn, 1) := by decide +kernel
theorem d360_632 : decode (hs_code 360) 632 = .ok (.aload_n 1, 1) := by decide +kernel
theorem d360_633 : decode (hs_code 360) 633 = .ok (.aload_n 0, 1) := by decide +kernel
theorem d360_634 : decode (hs_code 360) 634 = .ok (.iload_n 3, 1) := by decide +kernel
theorem d360_635 : decode (hs_code 360) 635 = .ok (.iconst 1, 1) := by decide +kernel
theorem d360_636 : decode (hs_code 360) 636 = .ok (.iadd, 1) := by decide +kernel
theorem d360_637 : decode (hs_code 360) 637 = .ok (.iaload, 1) := by decide +kernel
theorem d360_638 : decode (hs_code 360) 638 = .ok (.invokevirtual 59, 3) := by decide +kernel
theorem d360_641 : decode (hs_code 360) 641 = .ok (.aload_n 2, 1) := by decide +kernel
theorem d360_642 : decode (hs_code 360) 642 = .ok (.aload_n 0, 1) := by decide +kernel
theorem d360_643 : decode (hs_code 360) 643 = .ok (.iload_n 3, 1) := by decide +kernel
theorem d360_644 : decode (hs_code 360) 644 = .ok (.iconst 1, 1) := by decide +kernel
theorem d360_645 : decode (hs_code 360) 645 = .ok (.iadd, 1) := by decide +kernel
theorem d360_646 : decode (hs_code 360) 646 = .ok (.iaload, 1) := by decide +kernel
theorem d360_647 : decode (hs_code 360) 647 = .ok (.invokevirtual 62, 3) := by decide +kernel
theorem d360_650 : decode (hs_code 360) 650 = .ok (.if_icmp .eq 1304, 3) := by decide +kernel
theorem d360_653 : decode (hs_code 360) 653 = .ok (.iconst 0, 1) := by decide +kernel
theorem d360_654 : decode (hs_code 360) 654 = .ok (.ireturn, 1) := by decide +kernel
theorem d360_655 : decode (hs_code 360) 655 = .ok (.aload_n 1, 1) := by decide +kernel
theorem d360_656 : decode (hs_code 360) 656 = .ok (.aload_n 0, 1) := by decide +kernel
theorem d360_657 : decode (hs_code 360) 657 = .ok (.iload_n 3, 1) := by decide +kernel
theorem d360_658 : decode (hs_code 360) 658 = .ok (.iconst 1, 1) := by decide +kernel
theorem d360_659 : decode (hs_code 360) 659 = .ok (.iadd, 1) := by decide +kernel
theorem d360_660 : decode (hs_code 360) 660 = .ok (.iaload, 1) := by decide +kernel
theorem d360_661 : decode (hs_code 360) 661 = .ok (.invokevirtual 63, 3) := by decide +kernel
theorem d360_664 : decode (hs_code 360) 664 = .ok (.aload_n 2, 1) := by decide +kernel
theorem d360_665 : decode (hs_code 360) 665 = .ok (.aload_n 0, 1) := by decide +kernel
theorem d360_666 : decode (hs_code 360) 666 = .ok (.iload_n 3, 1) := by decide +kernel
theorem d360_667 : decode (hs_code 360) 667 = .ok (.iconst 1, 1) := by decide +kernel
theorem d360_668 : decode (hs_code 360) 668 = .ok (.iadd, 1) := by decide +kernel
theorem d360_669 : decode (hs_code 360) 669 = .ok (.iaload, 1) := by decide +kernel
theorem d360_670 : decode (hs_code 360) 670 = .ok (.invokevirtual 66, 3) := by decide +kernel
theorem d360_673 : decode (hs_code 360) 673 = .ok (.if_icmp .eq 1281, 3) := by decide +kernel
theorem d360_676 : decode (hs_code 360) 676 = .ok (.iconst 0, 1) := by decide +kernel
theorem d360_677 : decode (hs_code 360) 677 = .ok (.ireturn, 1) := by decide +kernel
theorem d360_678 : decode (hs_code 360) 678 = .ok (.aload_n 1, 1) := by decide +kernel
theorem d360_679 : decode (hs_code 360) 679 = .ok (.aload_n 0, 1) := by decide +kernel
theorem d360_680 : decode (hs_code 360) 680 = .ok (.iload_n 3, 1) := by decide +kernel
theorem d360_681 : decode (hs_code 360) 681 = .ok (.iconst 1, 1) := by decide +kernel
theorem d360_682 : decode (hs_code 360) 682 = .ok (.iadd, 1) := by decide +kernel
theorem d360_683 : decode (hs_code 360) 683 = .ok (.iaload, 1) := by decide +kernel
theorem d360_684 : decode (hs_code 360) 684 = .ok (.invokevirtual 67, 3) := by decide +kernel
theorem d360_687 : decode (hs_code 360) 687 = .ok (.aload_n 2, 1) := by decide +kernel
theorem d360_688 : decode (hs_code 360) 688 = .ok (.aload_n 0, 1) := by decide +kernel
theorem d360_689 : decode (hs_code 360) 689 = .ok (.iload_n 3, 1) := by decide +kernel
theorem d360_690 : decode (hs_code 360) 690 = .ok (.iconst 1, 1) := by decide +kernel
theorem d360_691 : decode (hs_code 360) 691 = .ok (.iadd, 1) := by decide +kernel
theorem d360_692 : decode (hs_code 360) 692 = .ok (.iaload, 1) := by decide +kernel
theorem d360_693 : decode (hs_code 360) 693 = .ok (.invokevirtual 70, 3) := by decide +kernel
theorem d360_696 : decode (hs_code 360) 696 = .ok (.if_icmp .eq 1258, 3) := by decide +kernel
theorem d360_699 : decode (hs_code 360) 699 = .ok (.iconst 0, 1) := by decide +kernel
theorem d360_700 : decode (hs_code 360) 700 = .ok (.ireturn, 1) := by decide +kernel
theorem d360_701 : decode (hs_code 360) 701 = .ok (.aload_n 1, 1) := by decide +kernel
theorem d360_702 : decode (hs_code 360) 702 = .ok (.aload_n 0, 1) := by decide +kernel
theorem d360_703 : decode (hs_code 360) 703 = .ok (.iload_n 3, 1) := by decide +kernel
theorem d360_704 : decode (hs_code 360) 704 = .ok (.iconst 1, 1) := by decide +kernel
theorem d360_705 : decode (hs_code 360) 705 = .ok (.iadd, 1) := by decide +kernel
theorem d360_706 : decode (hs_code 360) 706 = .ok (.iaload, 1) := by decide +kernel
theorem d360_707 : decode (hs_code 360) 707 = .ok (.aload_n 0, 1) := by decide +kernel
theorem d360_708 : decode (hs_code 360) 708 = .ok (.iload_n 3, 1) := by decide +kernel
theorem d360_709 : decode (hs_code 360) 709 = .ok (.iconst 2, 1) := by decide +kernel
theorem d360_710 : decode (hs_code 360) 710 = .ok (.iadd, 1) := by decide +kernel
theorem d360_711 : decode (hs_code 360) 711 = .ok (.iaload, 1) := by decide +kernel
theorem d360_712 : decode (hs_code 360) 712 = .ok (.invokevirtual 71, 3) := by decide +kernel
theorem d360_715 : decode (hs_code 360) 715 = .ok (.aload_n 2, 1) := by decide +kernel
theorem d360_716 : decode (hs_code 360) 716 = .ok (.aload_n 0, 1) := by decide +kernel
theorem d360_717 : decode (hs_code 360) 717 = .ok (.iload_n 3, 1) := by decide +kernel
theorem d360_718 : decode (hs_code 360) 718 = .ok (.iconst 1, 1) := by decide +kernel
theorem d360_719 : decode (hs_code 360) 719 = .ok (.iadd, 1) := by decide +kernel
theorem d360_720 : decode (hs_code 360) 720 = .ok (.iaload, 1) := by decide +kernel
theorem d360_721 : decode (hs_code 360) 721 = .ok (.aload_n 0, 1) := by decide +kernel
theorem d360_722 : decode (hs_code 360) 722 = .ok (.iload_n 3, 1) := by decide +kernel
theorem d360_723 : decode (hs_code 360) 723 = .ok (.iconst 2, 1) := by decide +kernel
theorem d360_724 : decode (hs_code 360) 724 = .ok (.iadd, 1) := by decide +kernel
theorem d360_725 : decode (hs_code 360) 725 = .ok (.iaload, 1) := by decide +kernel
theorem d360_726 : decode (hs_code 360) 726 = .ok (.invokevirtual 75, 3) := by decide +kernel
theorem d360_729 : decode (hs_code 360) 729 = .ok (.if_icmp .eq 1225, 3) := by decide +kernel
theorem d360_732 : decode (hs_code 360) 732 = .ok (.iconst 0, 1) := by decide +kernel
theorem d360_733 : decode (hs_code 360) 733 = .ok (.ireturn, 1) := by decide +kernel
theorem d360_734 : decode (hs_code 360) 734 = .ok (.aload_n 1, 1) := by decide +kernel
theorem d360_735 : decode (hs_code 360) 735 = .ok (.aload_n 0, 1) := by decide +kernel
theorem d360_736 : decode (hs_code 360) 736 = .ok (.iload_n 3, 1) := by decide +kernel
theorem d360_737 : decode (hs_code 360) 737 = .ok (.iconst 1, 1) := by decide +kernel
theorem d360_738 : decode (hs_code 360) 738 = .ok (.iadd, 1) := by decide +kernel
theorem d360_739 : decode (hs_code 360) 739 = .ok (.iaload, 1) := by decide +kernel
theorem d360_740 : decode (hs_code 360) 740 = .ok (.aload_n 0, 1) := by decide +kernel
theorem d360_741 : decode (hs_code 360) 741 = .ok (.iload_n 3, 1) := by decide +kernel
theorem d360_742 : decode (hs_code 360) 742 = .ok (.iconst 2, 1) := by decide +kernel
theorem d360_743 : decode (hs_code 360) 743 = .ok (.iadd, 1) := by decide +kernel
theorem d360_744 : decode (hs_code 360) 744 = .ok (.iaload, 1) := by decide +kernel
theorem d360_745 : decode (hs_code 360) 745 = .ok (.invokevirtual 76, 3) := by decide +kernel
theorem d360_748 : decode (hs_code 360) 748 = .ok (.aload_n 2, 1) := by decide +kernel
theorem d360_749 : decode (hs_code 360) 749 = .ok (.aload_n 0, 1) := by decide +kernel
theorem d360_750 : decode (hs_code 360) 750 = .ok (.iload_n 3, 1) := by decide +kernel
theorem d360_751 : decode (hs_code 360) 751 = .ok (.iconst 1, 1) := by decide +kernel
theorem d360_752 : decode (hs_code 360) 752 = .ok (.iadd, 1) := by decide +kernel
theorem d360_753 : decode (hs_code 360) 753 = .ok (.iaload, 1) := by decide +kernel
theorem d360_754 : decode (hs_code 360) 754 = .ok (.aload_n 0, 1) := by decide +kernel
theorem d360_755 : decode (hs_code 360) 755 = .ok (.iload_n 3, 1) := by decide +kernel
theorem d360_756 : decode (hs_code 360) 756 = .ok (.iconst 2, 1) := by decide +kernel
theorem d360_757 : decode (hs_code 360) 757 = .ok (.iadd, 1) := by decide +kernel
theorem d360_758 : decode (hs_code 360) 758 = .ok (.iaload, 1) := by decide +kernel
theorem d360_759 : decode (hs_code 360) 759 = .ok (.invokevirtual 79, 3) := by decide +kernel
theorem d360_762 : decode (hs_code 360) 762 = .ok (.if_icmp .eq 1192, 3) := by decide +kernel
theorem d360_765 : decode (hs_code 360) 765 = .ok (.iconst 0, 1) := by decide +kernel
theorem d360_766 : decode (hs_code 360) 766 = .ok (.ireturn, 1) := by decide +kernel
theorem d360_767 : decode (hs_code 360) 767 = .ok (.aload_n 1, 1) := by decide +kernel
theorem d360_768 : decode (hs_code 360) 768 = .ok (.invokevirtual 80, 3) := by decide +kernel
theorem d360_771 : decode (hs_code 360) 771 = .ok (.aload_n 2, 1) := by decide +kernel
theorem d360_772 : decode (hs_code 360) 772 = .ok (.invokevirtual 83, 3) := by decide +kernel
theorem d360_775 : decode (hs_code 360) 775 = .ok (.if_icmp .eq 1179, 3) := by decide +kernel
theorem d360_778 : decode (hs_code 360) 778 = .ok (.iconst 0, 1) := by decide +kernel
theorem d360_779 : decode (hs_code 360) 779 = .ok (.ireturn, 1) := by decide +kernel
theorem d360_780 : decode (hs_code 360) 780 = .ok (.aload_n 1, 1) := by decide +kernel
theorem d360_781 : decode (hs_code 360) 781 = .ok (.aload_n 0, 1) := by decide +kernel
theorem d360_782 : decode (hs_code 360) 782 = .ok (.iload_n 3, 1) := by decide +kernel
theorem d360_783 : decode (hs_code 360) 783 = .ok (.iconst 1, 1) := by decide +kernel
theorem d360_784 : decode (hs_code 360) 784 = .ok (.iadd, 1) := by decide +kernel
theorem d360_785 : decode (hs_code 360) 785 = .ok (.iaload, 1) := by decide +kernel
theorem d360_786 : decode (hs_code 360) 786 = .ok (.invokevirtual 84, 3) := by decide +kernel
theorem d360_789 : decode (hs_code 360) 789 = .ok (.aload_n 2, 1) := by decide +kernel
theorem d360_790 : decode (hs_code 360) 790 = .ok (.aload_n 0, 1) := by decide +kernel
theorem d360_791 : decode (hs_code 360) 791 = .ok (.iload_n 3, 1) := by decide +kernel
theorem d360_792 : decode (hs_code 360) 792 = .ok (.iconst 1, 1) := by decide +kernel
theorem d360_793 : decode (hs_code 360) 793 = .ok (.iadd, 1) := by decide +kernel
theorem d360_794 : decode (hs_code 360) 794 = .ok (.iaload, 1) := by decide +kernel
theorem d360_795 : decode (hs_code 360) 795 = .ok (.invokevirtual 87, 3) := by decide +kernel
theorem d360_798 : decode (hs_code 360) 798 = .ok (.if_icmp .eq 1156, 3) := by decide +kernel
theorem d360_801 : decode (hs_code 360) 801 = .ok (.iconst 0, 1) := by decide +kernel
theorem d360_802 : decode (hs_code 360) 802 = .ok (.ireturn, 1) := by decide +kernel
theorem d360_803 : decode (hs_code 360) 803 = .ok (.aload_n 1, 1) := by decide +kernel
theorem d360_804 : decode (hs_code 360) 804 = .ok (.aload_n 0, 1) := by decide +kernel
theorem d360_805 : decode (hs_code 360) 805 = .ok (.iload_n 3, 1) := by decide +kernel
theorem d360_806 : decode (hs_code 360) 806 = .ok (.iconst 1, 1) := by decide +kernel
theorem d360_807 : decode (hs_code 360) 807 = .ok (.iadd, 1) := by decide +kernel
theorem d360_808 : decode (hs_code 360) 808 = .ok (.iaload, 1) := by decide +kernel
theorem d360_809 : decode (hs_code 360) 809 = .ok (.aload_n 0, 1) := by decide +kernel
theorem d360_810 : decode (hs_code 360) 810 = .ok (.iload_n 3, 1) := by decide +kernel
theorem d360_811 : decode (hs_code 360) 811 = .ok (.iconst 2, 1) := by decide +kernel
theorem d360_812 : decode (hs_code 360) 812 = .ok (.iadd, 1) := by decide +kernel
theorem d360_813 : decode (hs_code 360) 813 = .ok (.iaload, 1) := by decide +kernel
theorem d360_814 : decode (hs_code 360) 814 = .ok (.invokevirtual 88, 3) := by decide +kernel
theorem d360_817 : decode (hs_code 360) 817 = .ok (.aload_n 2, 1) := by decide +kernel
theorem d360_818 : decode (hs_code 360) 818 = .ok (.aload_n 0, 1) := by decide +kernel
theorem d360_819 : decode (hs_code 360) 819 = .ok (.iload_n 3, 1) := by decide +kernel
theorem d360_820 : decode (hs_code 360) 820 = .ok (.iconst 1, 1) := by decide +kernel
theorem d360_821 : decode (hs_code 360) 821 = .ok (.iadd, 1) := by decide +kernel
theorem d360_822 : decode (hs_code 360) 822 = .ok (.iaload, 1) := by decide +kernel
theorem d360_823 : decode (hs_code 360) 823 = .ok (.aload_n 0, 1) := by decide +kernel
theorem d360_824 : decode (hs_code 360) 824 = .ok (.iload_n 3, 1) := by decide +kernel
theorem d360_825 : decode (hs_code 360) 825 = .ok (.iconst 2, 1) := by decide +kernel
theorem d360_826 : decode (hs_code 360) 826 = .ok (.iadd, 1) := by decide +kernel
theorem d360_827 : decode (hs_code 360) 827 = .ok (.iaload, 1) := by decide +kernel
theorem d360_828 : decode (hs_code 360) 828 = .ok (.invokevirtual 91, 3) := by decide +kernel
theorem d360_831 : decode (hs_code 360) 831 = .ok (.if_icmp .eq 1123, 3) := by decide +kernel
theorem d360_834 : decode (hs_code 360) 834 = .ok (.iconst 0, 1) := by decide +kernel
theorem d360_835 : decode (hs_code 360) 835 = .ok (.ireturn, 1) := by decide +kernel
theorem d360_836 : decode (hs_code 360) 836 = .ok (.aload_n 1, 1) := by decide +kernel
theorem d360_837 : decode (hs_code 360) 837 = .ok (.aload_n 0, 1) := by decide +kernel
theorem d360_838 : decode (hs_code 360) 838 = .ok (.iload_n 3, 1) := by decide +kernel
theorem d360_839 : decode (hs_code 360) 839 = .ok (.iconst 1, 1) := by decide +kernel
theorem d360_840 : decode (hs_code 360) 840 = .ok (.iadd, 1) := by decide +kernel
theorem d360_841 : decode (hs_code 360) 841 = .ok (.iaload, 1) := by decide +kernel
theorem d360_842 : decode (hs_code 360) 842 = .ok (.aload_n 0, 1) := by decide +kernel
theorem d360_843 : decode (hs_code 360) 843 = .ok (.iload_n 3, 1) := by decide +kernel
theorem d360_844 : decode (hs_code 360) 844 = .ok (.iconst 2, 1) := by decide +kernel
theorem d360_845 : decode (hs_code 360) 845 = .ok (.iadd, 1) := by decide +kernel
theorem d360_846 : decode (hs_code 360) 846 = .ok (.iaload, 1) := by decide +kernel
theorem d360_847 : decode (hs_code 360) 847 = .ok (.invokevirtual 92, 3) := by decide +kernel
theorem d360_850 : decode (hs_code 360) 850 = .ok (.aload_n 2, 1) := by decide +kernel
theorem d360_851 : decode (hs_code 360) 851 = .ok (.aload_n 0, 1) := by decide +kernel
theorem d360_852 : decode (hs_code 360) 852 = .ok (.iload_n 3, 1) := by decide +kernel
theorem d360_853 : decode (hs_code 360) 853 = .ok (.iconst 1, 1) := by decide +kernel
theorem d360_854 : decode (hs_code 360) 854 = .ok (.iadd, 1) := by decide +kernel
theorem d360_855 : decode (hs_code 360) 855 = .ok (.iaload, 1) := by decide +kernel
theorem d360_856 : decode (hs_code 360) 856 = .ok (.aload_n 0, 1) := by decide +kernel
theorem d360_857 : decode (hs_code 360) 857 = .ok (.iload_n 3, 1) := by decide +kernel
theorem d360_858 : decode (hs_code 360) 858 = .ok (.iconst 2, 1) := by decide +kernel
theorem d360_859 : decode (hs_code 360) 859 = .ok (.iadd, 1) := by decide +kernel
theorem d360_860 : decode (hs_code 360) 860 = .ok (.iaload, 1) := by decide +kernel
theorem d360_861 : decode (hs_code 360) 861 = .ok (.invokevirtual 95, 3) := by decide +kernel
theorem d360_864 : decode (hs_code 360) 864 = .ok (.if_icmp .eq 1090, 3) := by decide +kernel
theorem d360_867 : decode (hs_code 360) 867 = .ok (.iconst 0, 1) := by decide +kernel
theorem d360_868 : decode (hs_code 360) 868 = .ok (.ireturn, 1) := by decide +kernel
theorem d360_869 : decode (hs_code 360) 869 = .ok (.aload_n 1, 1) := by decide +kernel
theorem d360_870 : decode (hs_code 360) 870 = .ok (.aload_n 0, 1) := by decide +kernel
theorem d360_871 : decode (hs_code 360) 871 = .ok (.iload_n 3, 1) := by decide +kernel
theorem d360_872 : decode (hs_code 360) 872 = .ok (.iconst 1, 1) := by decide +kernel
theorem d360_873 : decode (hs_code 360) 873 = .ok (.iadd, 1) := by decide +kernel
theorem d360_874 : decode (hs_code 360) 874 = .ok (.iaload, 1) := by decide +kernel
theorem d360_875 : decode (hs_code 360) 875 = .ok (.invokevirtual 96, 3) := by decide +kernel
theorem d360_878 : decode (hs_code 360) 878 = .ok (.aload_n 2, 1) := by decide +kernel
theorem d360_879 : decode (hs_code 360) 879 = .ok (.aload_n 0, 1) := by decide +kernel
theorem d360_880 : decode (hs_code 360) 880 = .ok (.iload_n 3, 1) := by decide +kernel
theorem d360_881 : decode (hs_code 360) 881 = .ok (.iconst 1, 1) := by decide +kernel
theorem d360_882 : decode (hs_code 360) 882 = .ok (.iadd, 1) := by decide +kernel
theorem d360_883 : decode (hs_code 360) 883 = .ok (.iaload, 1) := by decide +kernel
theorem d360_884 : decode (hs_code 360) 884 = .ok (.invokevirtual 99, 3) := by decide +kernel
theorem d360_887 : decode (hs_code 360) 887 = .ok (.if_icmp .eq 1067, 3) := by decide +kernel
theorem d360_890 : decode (hs_code 360) 890 = .ok (.iconst 0, 1) := by decide +kernel
theorem d360_891 : decode (hs_code 360) 891 = .ok (.ireturn, 1) := by decide +kernel
theorem d360_892 : decode (hs_code 360) 892 = .ok (.aload_n 1, 1) := by decide +kernel
theorem d360_893 : decode (hs_code 360) 893 = .ok (.aload_n 0, 1) := by decide +kernel
theorem d360_894 : decode (hs_code 360) 894 = .ok (.iload_n 3, 1) := by decide +kernel
theorem d360_895 : decode (hs_code 360) 895 = .ok (.iconst 1, 1) := by decide +kernel
theorem d360_896 : decode (hs_code 360) 896 = .ok (.iadd, 1) := by decide +kernel
theorem d360_897 : decode (hs_code 360) 897 = .ok (.iaload, 1) := by decide +kernel
theorem d360_898 : decode (hs_code 360) 898 = .ok (.invokevirtual 100, 3) := by decide +kernel
theorem d360_901 : decode (hs_code 360) 901 = .ok (.aload_n 2, 1) := by decide +kernel
theorem d360_902 : decode (hs_code 360) 902 = .ok (.aload_n 0, 1) := by decide +kernel
theorem d360_903 : decode (hs_code 360) 903 = .ok (.iload_n 3, 1) := by decide +kernel
theorem d360_904 : decode (hs_code 360) 904 = .ok (.iconst 1, 1) := by decide +kernel
theorem d360_905 : decode (hs_code 360) 905 = .ok (.iadd, 1) := by decide +kernel
theorem d360_906 : decode (hs_code 360) 906 = .ok (.iaload, 1) := by decide +kernel
theorem d360_907 : decode (hs_code 360) 907 = .ok (.invokevirtual 103, 3) := by decide +kernel
theorem d360_910 : decode (hs_code 360) 910 = .ok (.if_icmp .eq 1044, 3) := by decide +kernel
theorem d360_913 : decode (hs_code 360) 913 = .ok (.iconst 0, 1) := by decide +kernel
theorem d360_914 : decode (hs_code 360) 914 = .ok (.ireturn, 1) := by decide +kernel
theorem d360_915 : decode (hs_code 360) 915 = .ok (.aload_n 1, 1) := by decide +kernel
theorem d360_916 : decode (hs_code 360) 916 = .ok (.aload_n 0, 1) := by decide +kernel
theorem d360_917 : decode (hs_code 360) 917 = .ok (.iload_n 3, 1) := by decide +kernel
theorem d360_918 : decode (hs_code 360) 918 = .ok (.iconst 1, 1) := by decide +kernel
theorem d360_919 : decode (hs_code 360) 919 = .ok (.iadd, 1) := by decide +kernel
theorem d360_920 : decode (hs_code 360) 920 = .ok (.iaload, 1) := by decide +kernel
theorem d360_921 : decode (hs_code 360) 921 = .ok (.ifCond .eq 7, 3) := by decide +kernel
theorem d360_924 : decode (hs_code 360) 924 = .ok (.iconst 1, 1) := by decide +kernel
theorem d360_925 : decode (hs_code 360) 925 = .ok (.goto 4, 3) := by decide +kernel
theorem d360_928 : decode (hs_code 360) 928 = .ok (.iconst 0, 1) := by decide +kernel
theorem d360_929 : decode (hs_code 360) 929 = .ok (.invokevirtual 104, 3) := by decide +kernel
theorem d360_932 : decode (hs_code 360) 932 = .ok (.aload_n 2, 1) := by decide +kernel
theorem d360_933 : decode (hs_code 360) 933 = .ok (.aload_n 0, 1) := by decide +kernel
theorem d360_934 : decode (hs_code 360) 934 = .ok (.iload_n 3, 1) := by decide +kernel
theorem d360_935 : decode (hs_code 360) 935 = .ok (.iconst 1, 1) := by decide +kernel
theorem d360_936 : decode (hs_code 360) 936 = .ok (.iadd, 1) := by decide +kernel
theorem d360_937 : decode (hs_code 360) 937 = .ok (.iaload, 1) := by decide +kernel
theorem d360_938 : decode (hs_code 360) 938 = .ok (.ifCond .eq 7, 3) := by decide +kernel
theorem d360_941 : decode (hs_code 360) 941 = .ok (.iconst 1, 1) := by decide +kernel
theorem d360_942 : decode (hs_code 360) 942 = .ok (.goto 4, 3) := by decide +kernel
theorem d360_945 : decode (hs_code 360) 945 = .ok (.iconst 0, 1) := by decide +kernel
theorem d360_946 : decode (hs_code 360) 946 = .ok (.invokevirtual 108, 3) := by decide +kernel
theorem d360_949 : decode (hs_code 360) 949 = .ok (.if_icmp .eq 1005, 3) := by decide +kernel
theorem d360_952 : decode (hs_code 360) 952 = .ok (.iconst 0, 1) := by decide +kernel
theorem d360_953 : decode (hs_code 360) 953 = .ok (.ireturn, 1) := by decide +kernel
theorem d360_954 : decode (hs_code 360) 954 = .ok (.aload_n 1, 1) := by decide +kernel
theorem d360_955 : decode (hs_code 360) 955 = .ok (.aload_n 0, 1) := by decide +kernel
theorem d360_956 : decode (hs_code 360) 956 = .ok (.iload_n 3, 1) := by decide +kernel
theorem d360_957 : decode (hs_code 360) 957 = .ok (.iconst 1, 1) := by decide +kernel
theorem d360_958 : decode (hs_code 360) 958 = .ok (.iadd, 1) := by decide +kernel
theorem d360_959 : decode (hs_code 360) 959 = .ok (.iaload, 1) := by decide +kernel
theorem d360_960 : decode (hs_code 360) 960 = .ok (.aload_n 0, 1) := by decide +kernel
theorem d360_961 : decode (hs_code 360) 961 = .ok (.iload_n 3, 1) := by decide +kernel
theorem d360_962 : decode (hs_code 360) 962 = .ok (.iconst 2, 1) := by decide +kernel
theorem d360_963 : decode (hs_code 360) 963 = .ok (.iadd, 1) := by decide +kernel
theorem d360_964 : decode (hs_code 360) 964 = .ok (.iaload, 1) := by decide +kernel
theorem d360_965 : decode (hs_code 360) 965 = .ok (.invokevirtual 109, 3) := by decide +kernel
theorem d360_968 : decode (hs_code 360) 968 = .ok (.aload_n 2, 1) := by decide +kernel
theorem d360_969 : decode (hs_code 360) 969 = .ok (.aload_n 0, 1) := by decide +kernel
theorem d360_970 : decode (hs_code 360) 970 = .ok (.iload_n 3, 1) := by decide +kernel
theorem d360_971 : decode (hs_code 360) 971 = .ok (.iconst 1, 1) := by decide +kernel
theorem d360_972 : decode (hs_code 360) 972 = .ok (.iadd, 1) := by decide +kernel
theorem d360_973 : decode (hs_code 360) 973 = .ok (.iaload, 1) := by decide +kernel
theorem d360_974 : decode (hs_code 360) 974 = .ok (.aload_n 0, 1) := by decide +kernel
theorem d360_975 : decode (hs_code 360) 975 = .ok (.iload_n 3, 1) := by decide +kernel
theorem d360_976 : decode (hs_code 360) 976 = .ok (.iconst 2, 1) := by decide +kernel
theorem d360_977 : decode (hs_code 360) 977 = .ok (.iadd, 1) := by decide +kernel
theorem d360_978 : decode (hs_code 360) 978 = .ok (.iaload, 1) := by decide +kernel
theorem d360_979 : decode (hs_code 360) 979 = .ok (.invokevirtual 112, 3) := by decide +kernel
theorem d360_982 : decode (hs_code 360) 982 = .ok (.if_icmp .eq 972, 3) := by decide +kernel
theorem d360_985 : decode (hs_code 360) 985 = .ok (.iconst 0, 1) := by decide +kernel
theorem d360_986 : decode (hs_code 360) 986 = .ok (.ireturn, 1) := by decide +kernel
theorem d360_987 : decode (hs_code 360) 987 = .ok (.aload_n 1, 1) := by decide +kernel
theorem d360_988 : decode (hs_code 360) 988 = .ok (.aload_n 0, 1) := by decide +kernel
theorem d360_989 : decode (hs_code 360) 989 = .ok (.iload_n 3, 1) := by decide +kernel
theorem d360_990 : decode (hs_code 360) 990 = .ok (.iconst 1, 1) := by decide +kernel
theorem d360_991 : decode (hs_code 360) 991 = .ok (.iadd, 1) := by decide +kernel
theorem d360_992 : decode (hs_code 360) 992 = .ok (.iaload, 1) := by decide +kernel
theorem d360_993 : decode (hs_code 360) 993 = .ok (.aload_n 0, 1) := by decide +kernel
theorem d360_994 : decode (hs_code 360) 994 = .ok (.iload_n 3, 1) := by decide +kernel
theorem d360_995 : decode (hs_code 360) 995 = .ok (.iconst 2, 1) := by decide +kernel
theorem d360_996 : decode (hs_code 360) 996 = .ok (.iadd, 1) := by decide +kernel
theorem d360_997 : decode (hs_code 360) 997 = .ok (.iaload, 1) := by decide +kernel
theorem d360_998 : decode (hs_code 360) 998 = .ok (.invokevirtual 113, 3) := by decide +kernel
theorem kI_6 : Int32.ofInt 6 = 6 := by decide
theorem np104 : hs_np 104 = 1 := by decide +kernel
theorem np106 : hs_np 106 = 2 := by decide +kernel
theorem np108 : hs_np 108 = 2 := by decide +kernel
theorem np111 : hs_np 111 = 2 := by decide +kernel
theorem np113 : hs_np 113 = 0 := by decide +kernel
theorem np115 : hs_np 115 = 2 := by decide +kernel
theorem np116 : hs_np 116 = 2 := by decide +kernel
theorem np117 : hs_np 117 = 2 := by decide +kernel
theorem np118 : hs_np 118 = 3 := by decide +kernel
theorem np119 : hs_np 119 = 2 := by decide +kernel
theorem np120 : hs_np 120 = 1 := by decide +kernel
theorem np122 : hs_np 122 = 0 := by decide +kernel
theorem np123 : hs_np 123 = 1 := by decide +kernel
theorem np124 : hs_np 124 = 1 := by decide +kernel
theorem np125 : hs_np 125 = 1 := by decide +kernel
theorem np127 : hs_np 127 = 1 := by decide +kernel
theorem np13 : hs_np 13 = 0 := by decide +kernel
theorem np130 : hs_np 130 = 2 := by decide +kernel
theorem np131 : hs_np 131 = 2 := by decide +kernel
theorem np134 : hs_np 134 = 2 := by decide +kernel
theorem np135 : hs_np 135 = 2 := by decide +kernel
theorem np136 : hs_np 136 = 0 := by decide +kernel
theorem np138 : hs_np 138 = 1 := by decide +kernel
theorem np14 : hs_np 14 = 0 := by decide +kernel
theorem np140 : hs_np 140 = 2 := by decide +kernel
theorem np141 : hs_np 141 = 1 := by decide +kernel
theorem np142 : hs_np 142 = 1 := by decide +kernel
theorem np145 : hs_np 145 = 1 := by decide +kernel
theorem np146 : hs_np 146 = 0 := by decide +kernel
theorem np148 : hs_np 148 = 0 := by decide +kernel
theorem np149 : hs_np 149 = 2 := by decide +kernel
theorem np15 : hs_np 15 = 0 := by decide +kernel
theorem np152 : hs_np 152 = 0 := by decide +kernel
theorem np154 : hs_np 154 = 0 := by decide +kernel
theorem np155 : hs_np 155 = 1 := by decide +kernel
theorem np156 : hs_np 156 = 1 := by decide +kernel
theorem np16 : hs_np 16 = 3 := by decide +kernel
theorem np163 : hs_np 163 = 1 := by decide +kernel
theorem np165 : hs_np 165 = 2 := by decide +kernel
theorem np170 : hs_np 170 = 1 := by decide +kernel
theorem np171 : hs_np 171 = 1 := by decide +kernel
theorem np182 : hs_np 182 = 1 := by decide +kernel
theorem np184 : hs_np 184 = 2 := by decide +kernel
theorem np188 : hs_np 188 = 0 := by decide +kernel
theorem np190 : hs_np 190 = 0 := by decide +kernel
theorem np193 : hs_np 193 = 0 := by decide +kernel
theorem np194 : hs_np 194 = 0 := by decide +kernel
theorem np195 : hs_np 195 = 0 := by decide +kernel
theorem np196 : hs_np 196 = 3 := by decide +kernel
theorem np202 : hs_np 202 = 2 := by decide +kernel
theorem np203 : hs_np 203 = 5 := by decide +kernel
theorem np204 : hs_np 204 = 5 := by decide +kernel
theorem np206 : hs_np 206 = 1 := by decide +kernel
theorem np207 : hs_np 207 = 1 := by decide +kernel
theorem np21 : hs_np 21 = 3 := by decide +kernel
theorem np260 : hs_np 260 = 1 := by decide +kernel
theorem np264 : hs_np 264 = 1 := by decide +kernel
theorem np27 : hs_np 27 = 2 := by decide +kernel
theorem np271 : hs_np 271 = 2 := by decide +kernel
theorem np273 : hs_np 273 = 2 := by decide +kernel
theorem np275 : hs_np 275 = 0 := by decide +kernel
theorem np276 : hs_np 276 = 1 := by decide +kernel
theorem np277 : hs_np 277 = 2 := by decide +kernel
theorem np280 : hs_np 280 = 2 := by decide +kernel
theorem np281 : hs_np 281 = 1 := by decide +kernel
theorem np283 : hs_np 283 = 1 := by decide +kernel
theorem np285 : hs_np 285 = 1 := by decide +kernel
theorem np287 : hs_np 287 = 2 := by decide +kernel
theorem np288 : hs_np 288 = 2 := by decide +kernel
theorem np29 : hs_np 29 = 5 := by decide +kernel
theorem np291 : hs_np 291 = 2 := by decide +kernel
theorem np293 : hs_np 293 = 0 := by decide +kernel
theorem np295 : hs_np 295 = 2 := by decide +kernel
theorem np296 : hs_np 296 = 2 := by decide +kernel
theorem np297 : hs_np 297 = 2 := by decide +kernel
theorem np298 : hs_np 298 = 3 := by decide +kernel
theorem np299 : hs_np 299 = 2 := by decide +kernel
theorem np300 : hs_np 300 = 1 := by decide +kernel
theorem np303 : hs_np 303 = 0 := by decide +kernel
theorem np304 : hs_np 304 = 1 := by decide +kernel
theorem np305 : hs_np 305 = 1 := by decide +kernel
theorem np308 : hs_np 308 = 1 := by decide +kernel
theorem np309 : hs_np 309 = 1 := by decide +kernel
theorem np31 : hs_np 31 = 5 := by decide +kernel
theorem np312 : hs_np 312 = 2 := by decide +kernel
theorem np313 : hs_np 313 = 2 := by decide +kernel
theorem np316 : hs_np 316 = 2 := by decide +kernel
theorem np317 : hs_np 317 = 2 := by decide +kernel
theorem np318 : hs_np 318 = 0 := by decide +kernel
theorem np320 : hs_np 320 = 1 := by decide +kernel
theorem np322 : hs_np 322 = 2 := by decide +kernel
theorem np323 : hs_np 323 = 1 := by decide +kernel
theorem np324 : hs_np 324 = 1 := by decide +kernel
theorem np327 : hs_np 327 = 1 := by decide +kernel
theorem np328 : hs_np 328 = 0 := by decide +kernel
theorem np331 : hs_np 331 = 0 := by decide +kernel
theorem np332 : hs_np 332 = 2 := by decide +kernel
theorem np335 : hs_np 335 = 0 := by decide +kernel
theorem np337 : hs_np 337 = 0 := by decide +kernel
theorem np338 : hs_np 338 = 1 := by decide +kernel
theorem np34 : hs_np 34 = 1 := by decide +kernel
theorem np340 : hs_np 340 = 1 := by decide +kernel
theorem np342 : hs_np 342 = 1 := by decide +kernel
theorem np343 : hs_np 343 = 2 := by decide +kernel
theorem np345 : hs_np 345 = 1 := by decide +kernel
theorem np346 : hs_np 346 = 1 := by decide +kernel
theorem np356 : hs_np 356 = 1 := by decide +kernel
theorem np357 : hs_np 357 = 2 := by decide +kernel
theorem np358 : hs_np 358 = 0 := by decide +kernel
theorem np359 : hs_np 359 = 0 := by decide +kernel
theorem np69 : hs_np 69 = 1 := by decide +kernel
theorem np79 : hs_np 79 = 1 := by decide +kernel
theorem np80 : hs_np 80 = 1 := by decide +kernel
theorem np88 : hs_np 88 = 2 := by decide +kernel
theorem np90 : hs_np 90 = 2 := by decide +kernel
theorem np92 : hs_np 92 = 0 := by decide +kernel
theorem np93 : hs_np 93 = 1 := by decide +kernel
theorem np94 : hs_np 94 = 2 := by decide +kernel
theorem np97 : hs_np 97 = 2 := by decide +kernel
theorem np98 : hs_np 98 = 1 := by decide +kernel
theorem np99 : hs_np 99 = 1 := by decide +kernel
theorem ow104 : hs_own 104 = 10 := by decide +kernel
theorem ow106 : hs_own 106 = 10 := by decide +kernel
theorem ow108 : hs_own 108 = 10 := by decide +kernel
theorem ow111 : hs_own 111 = 10 := by decide +kernel
theorem ow113 : hs_own 113 = 10 := by decide +kernel
theorem ow115 : hs_own 115 = 10 := by decide +kernel
theorem ow116 : hs_own 116 = 10 := by decide +kernel
theorem ow117 : hs_own 117 = 10 := by decide +kernel
theorem ow118 : hs_own 118 = 10 := by decide +kernel
theorem ow119 : hs_own 119 = 10 := by decide +kernel
theorem ow120 : hs_own 120 = 10 := by decide +kernel
theorem ow122 : hs_own 122 = 10 := by decide +kernel
theorem ow123 : hs_own 123 = 10 := by decide +kernel
theorem ow124 : hs_own 124 = 10 := by decide +kernel
theorem ow125 : hs_own 125 = 10 := by decide +kernel
theorem ow127 : hs_own 127 = 10 := by decide +kernel
theorem ow13 : hs_own 13 = 10 := by decide +kernel
theorem ow130 : hs_own 130 = 10 := by decide +kernel
theorem ow131 : hs_own 131 = 10 := by decide +kernel
theorem ow134 : hs_own 134 = 10 := by decide +kernel
theorem ow135 : hs_own 135 = 10 := by decide +kernel
theorem ow136 : hs_own 136 = 10 := by decide +kernel
theorem ow138 : hs_own 138 = 10 := by decide +kernel
theorem ow14 : hs_own 14 = 10 := by decide +kernel
theorem ow140 : hs_own 140 = 10 := by decide +kernel
theorem ow141 : hs_own 141 = 10 := by decide +kernel
theorem ow142 : hs_own 142 = 10 := by decide +kernel
theorem ow145 : hs_own 145 = 10 := by decide +kernel
theorem ow146 : hs_own 146 = 10 := by decide +kernel
theorem ow148 : hs_own 148 = 10 := by decide +kernel
theorem ow149 : hs_own 149 = 10 := by decide +kernel
theorem ow15 : hs_own 15 = 10 := by decide +kernel
theorem ow152 : hs_own 152 = 10 := by decide +kernel
theorem ow154 : hs_own 154 = 10 := by decide +kernel
theorem ow155 : hs_own 155 = 10 := by decide +kernel
theorem ow156 : hs_own 156 = 10 := by decide +kernel
theorem ow16 : hs_own 16 = 10 := by decide +kernel
theorem ow163 : hs_own 163 = 10 := by decide +kernel
theorem ow165 : hs_own 165 = 10 := by decide +kernel
theorem ow170 : hs_own 170 = 10 := by decide +kernel
theorem ow171 : hs_own 171 = 10 := by decide +kernel
theorem ow182 : hs_own 182 = 10 := by decide +kernel
theorem ow184 : hs_own 184 = 10 := by decide +kernel
theorem ow188 : hs_own 188 = 10 := by decide +kernel
theorem ow190 : hs_own 190 = 10 := by decide +kernel
theorem ow193 : hs_own 193 = 11 := by decide +kernel
theorem ow194 : hs_own 194 = 11 := by decide +kernel
theorem ow195 : hs_own 195 = 11 := by decide +kernel
theorem ow196 : hs_own 196 = 11 := by decide +kernel
theorem ow202 : hs_own 202 = 11 := by decide +kernel
theorem ow203 : hs_own 203 = 11 := by decide +kernel
theorem ow204 : hs_own 204 = 11 := by decide +kernel
theorem ow206 : hs_own 206 = 11 := by decide +kernel
theorem ow207 : hs_own 207 = 11 := by decide +kernel
theorem ow21 : hs_own 21 = 10 := by decide +kernel
theorem ow260 : hs_own 260 = 11 := by decide +kernel
theorem ow264 : hs_own 264 = 11 := by decide +kernel
theorem ow27 : hs_own 27 = 10 := by decide +kernel
theorem ow271 : hs_own 271 = 11 := by decide +kernel
theorem ow273 : hs_own 273 = 11 := by decide +kernel
theorem ow275 : hs_own 275 = 11 := by decide +kernel
theorem ow276 : hs_own 276 = 11 := by decide +kernel
theorem ow277 : hs_own 277 = 11 := by decide +kernel
theorem ow280 : hs_own 280 = 11 := by decide +kernel
theorem ow281 : hs_own 281 = 11 := by decide +kernel
theorem ow283 : hs_own 283 = 11 := by decide +kernel
theorem ow285 : hs_own 285 = 11 := by decide +kernel
theorem ow287 : hs_own 287 = 11 := by decide +kernel
theorem ow288 : hs_own 288 = 11 := by decide +kernel
theorem ow29 : hs_own 29 = 10 := by decide +kernel
theorem ow291 : hs_own 291 = 11 := by decide +kernel
theorem ow293 : hs_own 293 = 11 := by decide +kernel
theorem ow295 : hs_own 295 = 11 := by decide +kernel
theorem ow296 : hs_own 296 = 11 := by decide +kernel
theorem ow297 : hs_own 297 = 11 := by decide +kernel
theorem ow298 : hs_own 298 = 11 := by decide +kernel
theorem ow299 : hs_own 299 = 11 := by decide +kernel
theorem ow300 : hs_own 300 = 11 := by decide +kernel
theorem ow303 : hs_own 303 = 11 := by decide +kernel
theorem ow304 : hs_own 304 = 11 := by decide +kernel
theorem ow305 : hs_own 305 = 11 := by decide +kernel
theorem ow308 : hs_own 308 = 11 := by decide +kernel
theorem ow309 : hs_own 309 = 11 := by decide +kernel
theorem ow31 : hs_own 31 = 10 := by decide +kernel
theorem ow312 : hs_own 312 = 11 := by decide +kernel
theorem ow313 : hs_own 313 = 11 := by decide +kernel
theorem ow316 : hs_own 316 = 11 := by decide +kernel
theorem ow317 : hs_own 317 = 11 := by decide +kernel
theorem ow318 : hs_own 318 = 11 := by decide +kernel
theorem ow320 : hs_own 320 = 11 := by decide +kernel
theorem ow322 : hs_own 322 = 11 := by decide +kernel
theorem ow323 : hs_own 323 = 11 := by decide +kernel
theorem ow324 : hs_own 324 = 11 := by decide +kernel
theorem ow327 : hs_own 327 = 11 := by decide +kernel
theorem ow328 : hs_own 328 = 11 := by decide +kernel
theorem ow331 : hs_own 331 = 11 := by decide +kernel
theorem ow332 : hs_own 332 = 11 := by decide +kernel
theorem ow335 : hs_own 335 = 11 := by decide +kernel
theorem ow337 : hs_own 337 = 11 := by decide +kernel
theorem ow338 : hs_own 338 = 11 := by decide +kernel
theorem ow34 : hs_own 34 = 10 := by decide +kernel
theorem ow340 : hs_own 340 = 11 := by decide +kernel
theorem ow342 : hs_own 342 = 11 := by decide +kernel
theorem ow343 : hs_own 343 = 11 := by decide +kernel
theorem ow345 : hs_own 345 = 11 := by decide +kernel
theorem ow346 : hs_own 346 = 11 := by decide +kernel
theorem ow356 : hs_own 356 = 11 := by decide +kernel
theorem ow357 : hs_own 357 = 11 := by decide +kernel
theorem ow358 : hs_own 358 = 11 := by decide +kernel
theorem ow359 : hs_own 359 = 11 := by decide +kernel
theorem ow69 : hs_own 69 = 10 := by decide +kernel
theorem ow79 : hs_own 79 = 10 := by decide +kernel
theorem ow80 : hs_own 80 = 10 := by decide +kernel
theorem ow88 : hs_own 88 = 10 := by decide +kernel
theorem ow90 : hs_own 90 = 10 := by decide +kernel
theorem ow92 : hs_own 92 = 10 := by decide +kernel
theorem ow93 : hs_own 93 = 10 := by decide +kernel
theorem ow94 : hs_own 94 = 10 := by decide +kernel
theorem ow97 : hs_own 97 = 10 := by decide +kernel
theorem ow98 : hs_own 98 = 10 := by decide +kernel
theorem ow99 : hs_own 99 = 10 := by decide +kernel
theorem rt360 : hs_ret 360 = (some .boolean) := by decide +kernel

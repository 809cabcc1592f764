theorem d_Rf_find_0 : decode b_Rf_find 0 = .ok (.bipush 60, 2) := by decide +kernel
theorem d_Rf_find_2 : decode b_Rf_find 2 = .ok (.aload_n 0, 1) := by decide +kernel
theorem d_Rf_find_3 : decode b_Rf_find 3 = .ok (.getfield 36, 3) := by decide +kernel
theorem d_Rf_find_6 : decode b_Rf_find 6 = .ok (.iload_n 1, 1) := by decide +kernel
theorem d_Rf_find_7 : decode b_Rf_find 7 = .ok (.iaload, 1) := by decide +kernel
theorem d_Rf_find_8 : decode b_Rf_find 8 = .ok (.imul, 1) := by decide +kernel
theorem d_Rf_find_9 : decode b_Rf_find 9 = .ok (.iload_n 2, 1) := by decide +kernel
theorem d_Rf_find_10 : decode b_Rf_find 10 = .ok (.iadd, 1) := by decide +kernel
theorem d_Rf_find_11 : decode b_Rf_find 11 = .ok (.istore_n 3, 1) := by decide +kernel
theorem d_Rf_find_12 : decode b_Rf_find 12 = .ok (.aload_n 0, 1) := by decide +kernel
theorem d_Rf_find_13 : decode b_Rf_find 13 = .ok (.getfield 20, 3) := by decide +kernel
theorem d_Rf_find_16 : decode b_Rf_find 16 = .ok (.aload_n 0, 1) := by decide +kernel
theorem d_Rf_find_17 : decode b_Rf_find 17 = .ok (.iload_n 2, 1) := by decide +kernel
theorem d_Rf_find_18 : decode b_Rf_find 18 = .ok (.invokevirtual 133, 3) := by decide +kernel
theorem d_Rf_find_21 : decode b_Rf_find 21 = .ok (.baload, 1) := by decide +kernel
theorem d_Rf_find_22 : decode b_Rf_find 22 = .ok (.istore 4, 2) := by decide +kernel
theorem d_Rf_find_24 : decode b_Rf_find 24 = .ok (.aload_n 0, 1) := by decide +kernel
theorem d_Rf_find_25 : decode b_Rf_find 25 = .ok (.iload_n 1, 1) := by decide +kernel
theorem d_Rf_find_26 : decode b_Rf_find 26 = .ok (.iload_n 2, 1) := by decide +kernel
theorem d_Rf_find_27 : decode b_Rf_find 27 = .ok (.invokevirtual 123, 3) := by decide +kernel
theorem d_Rf_find_30 : decode b_Rf_find 30 = .ok (.istore 5, 2) := by decide +kernel
theorem d_Rf_find_32 : decode b_Rf_find 32 = .ok (.aload_n 0, 1) := by decide +kernel
theorem d_Rf_find_33 : decode b_Rf_find 33 = .ok (.getfield 20, 3) := by decide +kernel
theorem d_Rf_find_36 : decode b_Rf_find 36 = .ok (.iload_n 3, 1) := by decide +kernel
theorem d_Rf_find_37 : decode b_Rf_find 37 = .ok (.baload, 1) := by decide +kernel
theorem d_Rf_find_38 : decode b_Rf_find 38 = .ok (.ifCond .ne 4, 3) := by decide +kernel
theorem d_Rf_find_41 : decode b_Rf_find 41 = .ok (.return_, 1) := by decide +kernel
theorem d_Rf_find_42 : decode b_Rf_find 42 = .ok (.iconst 0, 1) := by decide +kernel
theorem d_Rf_find_43 : decode b_Rf_find 43 = .ok (.istore 6, 2) := by decide +kernel
theorem d_Rf_find_45 : decode b_Rf_find 45 = .ok (.iconst 0, 1) := by decide +kernel
theorem d_Rf_find_46 : decode b_Rf_find 46 = .ok (.istore 7, 2) := by decide +kernel
theorem d_Rf_find_48 : decode b_Rf_find 48 = .ok (.iconst 0, 1) := by decide +kernel
theorem d_Rf_find_49 : decode b_Rf_find 49 = .ok (.istore 8, 2) := by decide +kernel
theorem d_Rf_find_51 : decode b_Rf_find 51 = .ok (.iload 8, 2) := by decide +kernel
theorem d_Rf_find_53 : decode b_Rf_find 53 = .ok (.iconst 5, 1) := by decide +kernel
theorem d_Rf_find_54 : decode b_Rf_find 54 = .ok (.if_icmp .ge 179, 3) := by decide +kernel
theorem d_Rf_find_57 : decode b_Rf_find 57 = .ok (.aload_n 0, 1) := by decide +kernel
theorem d_Rf_find_58 : decode b_Rf_find 58 = .ok (.getfield 24, 3) := by decide +kernel
theorem d_Rf_find_61 : decode b_Rf_find 61 = .ok (.iconst 5, 1) := by decide +kernel
theorem d_Rf_find_62 : decode b_Rf_find 62 = .ok (.iload_n 3, 1) := by decide +kernel
theorem d_Rf_find_63 : decode b_Rf_find 63 = .ok (.imul, 1) := by decide +kernel
theorem d_Rf_find_64 : decode b_Rf_find 64 = .ok (.iload 8, 2) := by decide +kernel
theorem d_Rf_find_66 : decode b_Rf_find 66 = .ok (.iadd, 1) := by decide +kernel
theorem d_Rf_find_67 : decode b_Rf_find 67 = .ok (.iaload, 1) := by decide +kernel
theorem d_Rf_find_68 : decode b_Rf_find 68 = .ok (.istore 9, 2) := by decide +kernel
theorem d_Rf_find_70 : decode b_Rf_find 70 = .ok (.aload_n 0, 1) := by decide +kernel
theorem d_Rf_find_71 : decode b_Rf_find 71 = .ok (.getfield 24, 3) := by decide +kernel
theorem d_Rf_find_74 : decode b_Rf_find 74 = .ok (.iconst 5, 1) := by decide +kernel
theorem d_Rf_find_75 : decode b_Rf_find 75 = .ok (.aload_n 0, 1) := by decide +kernel
theorem d_Rf_find_76 : decode b_Rf_find 76 = .ok (.iload_n 2, 1) := by decide +kernel
theorem d_Rf_find_77 : decode b_Rf_find 77 = .ok (.invokevirtual 133, 3) := by decide +kernel
theorem d_Rf_find_80 : decode b_Rf_find 80 = .ok (.imul, 1) := by decide +kernel
theorem d_Rf_find_81 : decode b_Rf_find 81 = .ok (.iload 8, 2) := by decide +kernel
theorem d_Rf_find_83 : decode b_Rf_find 83 = .ok (.iadd, 1) := by decide +kernel
theorem d_Rf_find_84 : decode b_Rf_find 84 = .ok (.iaload, 1) := by decide +kernel
theorem d_Rf_find_85 : decode b_Rf_find 85 = .ok (.istore 10, 2) := by decide +kernel
theorem d_Rf_find_87 : decode b_Rf_find 87 = .ok (.aload_n 0, 1) := by decide +kernel
theorem d_Rf_find_88 : decode b_Rf_find 88 = .ok (.iload_n 1, 1) := by decide +kernel
theorem d_Rf_find_89 : decode b_Rf_find 89 = .ok (.iload_n 2, 1) := by decide +kernel
theorem d_Rf_find_90 : decode b_Rf_find 90 = .ok (.iload 8, 2) := by decide +kernel
theorem d_Rf_find_92 : decode b_Rf_find 92 = .ok (.invokevirtual 137, 3) := by decide +kernel
theorem d_Rf_find_95 : decode b_Rf_find 95 = .ok (.istore 11, 2) := by decide +kernel
theorem d_Rf_find_97 : decode b_Rf_find 97 = .ok (.iload 4, 2) := by decide +kernel
theorem d_Rf_find_99 : decode b_Rf_find 99 = .ok (.ifCond .eq 14, 3) := by decide +kernel
theorem d_Rf_find_102 : decode b_Rf_find 102 = .ok (.iload 10, 2) := by decide +kernel
theorem d_Rf_find_104 : decode b_Rf_find 104 = .ok (.iload 9, 2) := by decide +kernel
theorem d_Rf_find_106 : decode b_Rf_find 106 = .ok (.if_icmp .eq 7, 3) := by decide +kernel
theorem d_Rf_find_109 : decode b_Rf_find 109 = .ok (.iconst 1, 1) := by decide +kernel
theorem d_Rf_find_110 : decode b_Rf_find 110 = .ok (.goto 4, 3) := by decide +kernel
theorem d_Rf_find_113 : decode b_Rf_find 113 = .ok (.iconst 0, 1) := by decide +kernel
theorem d_Rf_find_114 : decode b_Rf_find 114 = .ok (.istore 12, 2) := by decide +kernel
theorem d_Rf_find_116 : decode b_Rf_find 116 = .ok (.iload 5, 2) := by decide +kernel
theorem d_Rf_find_118 : decode b_Rf_find 118 = .ok (.ifCond .eq 14, 3) := by decide +kernel
theorem d_Rf_find_121 : decode b_Rf_find 121 = .ok (.iload 11, 2) := by decide +kernel
theorem d_Rf_find_123 : decode b_Rf_find 123 = .ok (.iload 9, 2) := by decide +kernel
theorem d_Rf_find_125 : decode b_Rf_find 125 = .ok (.if_icmp .eq 7, 3) := by decide +kernel
theorem d_Rf_find_128 : decode b_Rf_find 128 = .ok (.iconst 1, 1) := by decide +kernel
theorem d_Rf_find_129 : decode b_Rf_find 129 = .ok (.goto 4, 3) := by decide +kernel
theorem d_Rf_find_132 : decode b_Rf_find 132 = .ok (.iconst 0, 1) := by decide +kernel
theorem d_Rf_find_133 : decode b_Rf_find 133 = .ok (.istore 13, 2) := by decide +kernel
theorem d_Rf_find_135 : decode b_Rf_find 135 = .ok (.iload 6, 2) := by decide +kernel
theorem d_Rf_find_137 : decode b_Rf_find 137 = .ok (.ifCond .ne 8, 3) := by decide +kernel
theorem d_Rf_find_140 : decode b_Rf_find 140 = .ok (.iload 12, 2) := by decide +kernel
theorem d_Rf_find_142 : decode b_Rf_find 142 = .ok (.ifCond .eq 7, 3) := by decide +kernel
theorem d_Rf_find_145 : decode b_Rf_find 145 = .ok (.iconst 1, 1) := by decide +kernel
theorem d_Rf_find_146 : decode b_Rf_find 146 = .ok (.goto 4, 3) := by decide +kernel
theorem d_Rf_find_149 : decode b_Rf_find 149 = .ok (.iconst 0, 1) := by decide +kernel
theorem d_Rf_find_150 : decode b_Rf_find 150 = .ok (.istore 6, 2) := by decide +kernel
theorem d_Rf_find_152 : decode b_Rf_find 152 = .ok (.iload 7, 2) := by decide +kernel
theorem d_Rf_find_154 : decode b_Rf_find 154 = .ok (.ifCond .ne 8, 3) := by decide +kernel
theorem d_Rf_find_157 : decode b_Rf_find 157 = .ok (.iload 13, 2) := by decide +kernel
theorem d_Rf_find_159 : decode b_Rf_find 159 = .ok (.ifCond .eq 7, 3) := by decide +kernel
theorem d_Rf_find_162 : decode b_Rf_find 162 = .ok (.iconst 1, 1) := by decide +kernel
theorem d_Rf_find_163 : decode b_Rf_find 163 = .ok (.goto 4, 3) := by decide +kernel
theorem d_Rf_find_166 : decode b_Rf_find 166 = .ok (.iconst 0, 1) := by decide +kernel
theorem d_Rf_find_167 : decode b_Rf_find 167 = .ok (.istore 7, 2) := by decide +kernel
theorem d_Rf_find_169 : decode b_Rf_find 169 = .ok (.iload 12, 2) := by decide +kernel
theorem d_Rf_find_171 : decode b_Rf_find 171 = .ok (.ifCond .eq 56, 3) := by decide +kernel
theorem d_Rf_find_174 : decode b_Rf_find 174 = .ok (.iload 13, 2) := by decide +kernel
theorem d_Rf_find_176 : decode b_Rf_find 176 = .ok (.ifCond .eq 51, 3) := by decide +kernel
theorem d_Rf_find_179 : decode b_Rf_find 179 = .ok (.iload 10, 2) := by decide +kernel
theorem d_Rf_find_181 : decode b_Rf_find 181 = .ok (.iload 11, 2) := by decide +kernel
theorem d_Rf_find_183 : decode b_Rf_find 183 = .ok (.if_icmp .eq 44, 3) := by decide +kernel
theorem d_Rf_find_186 : decode b_Rf_find 186 = .ok (.aload_n 0, 1) := by decide +kernel
theorem d_Rf_find_187 : decode b_Rf_find 187 = .ok (.getfield 81, 3) := by decide +kernel
theorem d_Rf_find_190 : decode b_Rf_find 190 = .ok (.aload_n 0, 1) := by decide +kernel
theorem d_Rf_find_191 : decode b_Rf_find 191 = .ok (.getfield 141, 3) := by decide +kernel
theorem d_Rf_find_194 : decode b_Rf_find 194 = .ok (.iload_n 2, 1) := by decide +kernel
theorem d_Rf_find_195 : decode b_Rf_find 195 = .ok (.iastore, 1) := by decide +kernel
theorem d_Rf_find_196 : decode b_Rf_find 196 = .ok (.aload_n 0, 1) := by decide +kernel
theorem d_Rf_find_197 : decode b_Rf_find 197 = .ok (.getfield 84, 3) := by decide +kernel
theorem d_Rf_find_200 : decode b_Rf_find 200 = .ok (.aload_n 0, 1) := by decide +kernel
theorem d_Rf_find_201 : decode b_Rf_find 201 = .ok (.getfield 141, 3) := by decide +kernel
theorem d_Rf_find_204 : decode b_Rf_find 204 = .ok (.iload 8, 2) := by decide +kernel
theorem d_Rf_find_206 : decode b_Rf_find 206 = .ok (.iastore, 1) := by decide +kernel
theorem d_Rf_find_207 : decode b_Rf_find 207 = .ok (.aload_n 0, 1) := by decide +kernel
theorem d_Rf_find_208 : decode b_Rf_find 208 = .ok (.getfield 87, 3) := by decide +kernel
theorem d_Rf_find_211 : decode b_Rf_find 211 = .ok (.aload_n 0, 1) := by decide +kernel
theorem d_Rf_find_212 : decode b_Rf_find 212 = .ok (.getfield 141, 3) := by decide +kernel
theorem d_Rf_find_215 : decode b_Rf_find 215 = .ok (.iconst (-1), 1) := by decide +kernel
theorem d_Rf_find_216 : decode b_Rf_find 216 = .ok (.iastore, 1) := by decide +kernel
theorem d_Rf_find_217 : decode b_Rf_find 217 = .ok (.aload_n 0, 1) := by decide +kernel
theorem d_Rf_find_218 : decode b_Rf_find 218 = .ok (.dup, 1) := by decide +kernel
theorem d_Rf_find_219 : decode b_Rf_find 219 = .ok (.getfield 141, 3) := by decide +kernel
theorem d_Rf_find_222 : decode b_Rf_find 222 = .ok (.iconst 1, 1) := by decide +kernel
theorem d_Rf_find_223 : decode b_Rf_find 223 = .ok (.iadd, 1) := by decide +kernel
theorem d_Rf_find_224 : decode b_Rf_find 224 = .ok (.putfield 141, 3) := by decide +kernel
theorem d_Rf_find_227 : decode b_Rf_find 227 = .ok (.iinc 8 1, 3) := by decide +kernel
theorem d_Rf_find_230 : decode b_Rf_find 230 = .ok (.goto (-179), 3) := by decide +kernel
theorem d_Rf_find_233 : decode b_Rf_find 233 = .ok (.iload 4, 2) := by decide +kernel
theorem d_Rf_find_235 : decode b_Rf_find 235 = .ok (.iload 5, 2) := by decide +kernel
theorem d_Rf_find_237 : decode b_Rf_find 237 = .ok (.if_icmp .eq 61, 3) := by decide +kernel
theorem d_Rf_find_240 : decode b_Rf_find 240 = .ok (.iload 4, 2) := by decide +kernel
theorem d_Rf_find_242 : decode b_Rf_find 242 = .ok (.ifCond .eq 11, 3) := by decide +kernel
theorem d_Rf_find_245 : decode b_Rf_find 245 = .ok (.iload 6, 2) := by decide +kernel
theorem d_Rf_find_247 : decode b_Rf_find 247 = .ok (.ifCond .eq 51, 3) := by decide +kernel
theorem d_Rf_find_250 : decode b_Rf_find 250 = .ok (.goto 8, 3) := by decide +kernel
theorem d_Rf_find_253 : decode b_Rf_find 253 = .ok (.iload 7, 2) := by decide +kernel
theorem d_Rf_find_255 : decode b_Rf_find 255 = .ok (.ifCond .eq 43, 3) := by decide +kernel
theorem d_Rf_find_258 : decode b_Rf_find 258 = .ok (.aload_n 0, 1) := by decide +kernel
theorem d_Rf_find_259 : decode b_Rf_find 259 = .ok (.getfield 81, 3) := by decide +kernel
theorem d_Rf_find_262 : decode b_Rf_find 262 = .ok (.aload_n 0, 1) := by decide +kernel
theorem d_Rf_find_263 : decode b_Rf_find 263 = .ok (.getfield 141, 3) := by decide +kernel
theorem d_Rf_find_266 : decode b_Rf_find 266 = .ok (.iload_n 2, 1) := by decide +kernel
theorem d_Rf_find_267 : decode b_Rf_find 267 = .ok (.iastore, 1) := by decide +kernel
theorem d_Rf_find_268 : decode b_Rf_find 268 = .ok (.aload_n 0, 1) := by decide +kernel
theorem d_Rf_find_269 : decode b_Rf_find 269 = .ok (.getfield 84, 3) := by decide +kernel
theorem d_Rf_find_272 : decode b_Rf_find 272 = .ok (.aload_n 0, 1) := by decide +kernel
theorem d_Rf_find_273 : decode b_Rf_find 273 = .ok (.getfield 141, 3) := by decide +kernel
theorem d_Rf_find_276 : decode b_Rf_find 276 = .ok (.iconst (-1), 1) := by decide +kernel
theorem d_Rf_find_277 : decode b_Rf_find 277 = .ok (.iastore, 1) := by decide +kernel
theorem d_Rf_find_278 : decode b_Rf_find 278 = .ok (.aload_n 0, 1) := by decide +kernel
theorem d_Rf_find_279 : decode b_Rf_find 279 = .ok (.getfield 87, 3) := by decide +kernel
theorem d_Rf_find_282 : decode b_Rf_find 282 = .ok (.aload_n 0, 1) := by decide +kernel
theorem d_Rf_find_283 : decode b_Rf_find 283 = .ok (.getfield 141, 3) := by decide +kernel
theorem d_Rf_find_286 : decode b_Rf_find 286 = .ok (.iconst (-1), 1) := by decide +kernel
theorem d_Rf_find_287 : decode b_Rf_find 287 = .ok (.iastore, 1) := by decide +kernel
theorem d_Rf_find_288 : decode b_Rf_find 288 = .ok (.aload_n 0, 1) := by decide +kernel
theorem d_Rf_find_289 : decode b_Rf_find 289 = .ok (.dup, 1) := by decide +kernel
theorem d_Rf_find_290 : decode b_Rf_find 290 = .ok (.getfield 141, 3) := by decide +kernel
theorem d_Rf_find_293 : decode b_Rf_find 293 = .ok (.iconst 1, 1) := by decide +kernel
theorem d_Rf_find_294 : decode b_Rf_find 294 = .ok (.iadd, 1) := by decide +kernel
theorem d_Rf_find_295 : decode b_Rf_find 295 = .ok (.putfield 141, 3) := by decide +kernel
theorem d_Rf_find_298 : decode b_Rf_find 298 = .ok (.return_, 1) := by decide +kernel
theorem d_Rf_sideOf_0 : decode b_Rf_sideOf 0 = .ok (.iconst (-1), 1) := by decide +kernel
theorem d_Rf_sideOf_1 : decode b_Rf_sideOf 1 = .ok (.istore_n 3, 1) := by decide +kernel
theorem d_Rf_sideOf_2 : decode b_Rf_sideOf 2 = .ok (.iconst 0, 1) := by decide +kernel
theorem d_Rf_sideOf_3 : decode b_Rf_sideOf 3 = .ok (.istore 4, 2) := by decide +kernel
theorem d_Rf_sideOf_5 : decode b_Rf_sideOf 5 = .ok (.iload 4, 2) := by decide +kernel
theorem d_Rf_sideOf_7 : decode b_Rf_sideOf 7 = .ok (.aload_n 0, 1) := by decide +kernel
theorem d_Rf_sideOf_8 : decode b_Rf_sideOf 8 = .ok (.getfield 141, 3) := by decide +kernel
theorem d_Rf_sideOf_11 : decode b_Rf_sideOf 11 = .ok (.if_icmp .ge 43, 3) := by decide +kernel
theorem d_Rf_sideOf_14 : decode b_Rf_sideOf 14 = .ok (.aload_n 0, 1) := by decide +kernel
theorem d_Rf_sideOf_15 : decode b_Rf_sideOf 15 = .ok (.getfield 81, 3) := by decide +kernel
theorem d_Rf_sideOf_18 : decode b_Rf_sideOf 18 = .ok (.iload 4, 2) := by decide +kernel
theorem d_Rf_sideOf_20 : decode b_Rf_sideOf 20 = .ok (.iaload, 1) := by decide +kernel
theorem d_Rf_sideOf_21 : decode b_Rf_sideOf 21 = .ok (.iload_n 1, 1) := by decide +kernel
theorem d_Rf_sideOf_22 : decode b_Rf_sideOf 22 = .ok (.if_icmp .ne 24, 3) := by decide +kernel
theorem d_Rf_sideOf_25 : decode b_Rf_sideOf 25 = .ok (.aload_n 0, 1) := by decide +kernel
theorem d_Rf_sideOf_26 : decode b_Rf_sideOf 26 = .ok (.getfield 84, 3) := by decide +kernel
theorem d_Rf_sideOf_29 : decode b_Rf_sideOf 29 = .ok (.iload 4, 2) := by decide +kernel
theorem d_Rf_sideOf_31 : decode b_Rf_sideOf 31 = .ok (.iaload, 1) := by decide +kernel
theorem d_Rf_sideOf_32 : decode b_Rf_sideOf 32 = .ok (.iload_n 2, 1) := by decide +kernel
theorem d_Rf_sideOf_33 : decode b_Rf_sideOf 33 = .ok (.if_icmp .ne 13, 3) := by decide +kernel
theorem d_Rf_sideOf_36 : decode b_Rf_sideOf 36 = .ok (.aload_n 0, 1) := by decide +kernel
theorem d_Rf_sideOf_37 : decode b_Rf_sideOf 37 = .ok (.getfield 87, 3) := by decide +kernel
theorem d_Rf_sideOf_40 : decode b_Rf_sideOf 40 = .ok (.iload 4, 2) := by decide +kernel
theorem d_Rf_sideOf_42 : decode b_Rf_sideOf 42 = .ok (.iaload, 1) := by decide +kernel
theorem d_Rf_sideOf_43 : decode b_Rf_sideOf 43 = .ok (.goto 4, 3) := by decide +kernel
theorem d_Rf_sideOf_46 : decode b_Rf_sideOf 46 = .ok (.iload_n 3, 1) := by decide +kernel
theorem d_Rf_sideOf_47 : decode b_Rf_sideOf 47 = .ok (.istore_n 3, 1) := by decide +kernel
theorem d_Rf_sideOf_48 : decode b_Rf_sideOf 48 = .ok (.iinc 4 1, 3) := by decide +kernel
theorem d_Rf_sideOf_51 : decode b_Rf_sideOf 51 = .ok (.goto (-46), 3) := by decide +kernel
theorem d_Rf_sideOf_54 : decode b_Rf_sideOf 54 = .ok (.iload_n 3, 1) := by decide +kernel
theorem d_Rf_sideOf_55 : decode b_Rf_sideOf 55 = .ok (.ireturn, 1) := by decide +kernel
theorem d_Rf_take_0 : decode b_Rf_take 0 = .ok (.bipush 60, 2) := by decide +kernel
theorem d_Rf_take_2 : decode b_Rf_take 2 = .ok (.aload_n 0, 1) := by decide +kernel
theorem d_Rf_take_3 : decode b_Rf_take 3 = .ok (.getfield 16, 3) := by decide +kernel
theorem d_Rf_take_6 : decode b_Rf_take 6 = .ok (.imul, 1) := by decide +kernel
theorem d_Rf_take_7 : decode b_Rf_take 7 = .ok (.iload_n 2, 1) := by decide +kernel
theorem d_Rf_take_8 : decode b_Rf_take 8 = .ok (.iadd, 1) := by decide +kernel
theorem d_Rf_take_9 : decode b_Rf_take 9 = .ok (.istore 4, 2) := by decide +kernel
theorem d_Rf_take_11 : decode b_Rf_take 11 = .ok (.aload_n 0, 1) := by decide +kernel
theorem d_Rf_take_12 : decode b_Rf_take 12 = .ok (.getfield 20, 3) := by decide +kernel
theorem d_Rf_take_15 : decode b_Rf_take 15 = .ok (.iload 4, 2) := by decide +kernel
theorem d_Rf_take_17 : decode b_Rf_take 17 = .ok (.iconst 1, 1) := by decide +kernel
theorem d_Rf_take_18 : decode b_Rf_take 18 = .ok (.bastore, 1) := by decide +kernel
theorem d_Rf_take_19 : decode b_Rf_take 19 = .ok (.iconst 0, 1) := by decide +kernel
theorem d_Rf_take_20 : decode b_Rf_take 20 = .ok (.istore 5, 2) := by decide +kernel
theorem d_Rf_take_22 : decode b_Rf_take 22 = .ok (.iload 5, 2) := by decide +kernel
theorem d_Rf_take_24 : decode b_Rf_take 24 = .ok (.iconst 5, 1) := by decide +kernel
theorem d_Rf_take_25 : decode b_Rf_take 25 = .ok (.if_icmp .ge 89, 3) := by decide +kernel
theorem d_Rf_take_28 : decode b_Rf_take 28 = .ok (.aload_n 0, 1) := by decide +kernel
theorem d_Rf_take_29 : decode b_Rf_take 29 = .ok (.getfield 24, 3) := by decide +kernel
theorem d_Rf_take_32 : decode b_Rf_take 32 = .ok (.iconst 5, 1) := by decide +kernel
theorem d_Rf_take_33 : decode b_Rf_take 33 = .ok (.iload 4, 2) := by decide +kernel
theorem d_Rf_take_35 : decode b_Rf_take 35 = .ok (.imul, 1) := by decide +kernel
theorem d_Rf_take_36 : decode b_Rf_take 36 = .ok (.iload 5, 2) := by decide +kernel
theorem d_Rf_take_38 : decode b_Rf_take 38 = .ok (.iadd, 1) := by decide +kernel
theorem d_Rf_take_39 : decode b_Rf_take 39 = .ok (.iload_n 3, 1) := by decide +kernel
theorem d_Rf_take_40 : decode b_Rf_take 40 = .ok (.ifCond .eq 14, 3) := by decide +kernel
theorem d_Rf_take_43 : decode b_Rf_take 43 = .ok (.aload_n 0, 1) := by decide +kernel
theorem d_Rf_take_44 : decode b_Rf_take 44 = .ok (.iload_n 1, 1) := by decide +kernel
theorem d_Rf_take_45 : decode b_Rf_take 45 = .ok (.iload_n 2, 1) := by decide +kernel
theorem d_Rf_take_46 : decode b_Rf_take 46 = .ok (.iload 5, 2) := by decide +kernel
theorem d_Rf_take_48 : decode b_Rf_take 48 = .ok (.invokevirtual 137, 3) := by decide +kernel
theorem d_Rf_take_51 : decode b_Rf_take 51 = .ok (.goto 18, 3) := by decide +kernel
theorem d_Rf_take_54 : decode b_Rf_take 54 = .ok (.aload_n 0, 1) := by decide +kernel
theorem d_Rf_take_55 : decode b_Rf_take 55 = .ok (.getfield 24, 3) := by decide +kernel
theorem d_Rf_take_58 : decode b_Rf_take 58 = .ok (.iconst 5, 1) := by decide +kernel
theorem d_Rf_take_59 : decode b_Rf_take 59 = .ok (.aload_n 0, 1) := by decide +kernel
theorem d_Rf_take_60 : decode b_Rf_take 60 = .ok (.iload_n 2, 1) := by decide +kernel
theorem d_Rf_take_61 : decode b_Rf_take 61 = .ok (.invokevirtual 133, 3) := by decide +kernel
theorem d_Rf_take_64 : decode b_Rf_take 64 = .ok (.imul, 1) := by decide +kernel
theorem d_Rf_take_65 : decode b_Rf_take 65 = .ok (.iload 5, 2) := by decide +kernel
theorem d_Rf_take_67 : decode b_Rf_take 67 = .ok (.iadd, 1) := by decide +kernel
theorem d_Rf_take_68 : decode b_Rf_take 68 = .ok (.iaload, 1) := by decide +kernel
theorem d_Rf_take_69 : decode b_Rf_take 69 = .ok (.iastore, 1) := by decide +kernel
theorem d_Rf_take_70 : decode b_Rf_take 70 = .ok (.aload_n 0, 1) := by decide +kernel
theorem d_Rf_take_71 : decode b_Rf_take 71 = .ok (.getfield 27, 3) := by decide +kernel
theorem d_Rf_take_74 : decode b_Rf_take 74 = .ok (.iconst 5, 1) := by decide +kernel
theorem d_Rf_take_75 : decode b_Rf_take 75 = .ok (.iload 4, 2) := by decide +kernel
theorem d_Rf_take_77 : decode b_Rf_take 77 = .ok (.imul, 1) := by decide +kernel
theorem d_Rf_take_78 : decode b_Rf_take 78 = .ok (.iload 5, 2) := by decide +kernel
theorem d_Rf_take_80 : decode b_Rf_take 80 = .ok (.iadd, 1) := by decide +kernel
theorem d_Rf_take_81 : decode b_Rf_take 81 = .ok (.iload_n 3, 1) := by decide +kernel
theorem d_Rf_take_82 : decode b_Rf_take 82 = .ok (.ifCond .eq 10, 3) := by decide +kernel
theorem d_Rf_take_85 : decode b_Rf_take 85 = .ok (.aload_n 0, 1) := by decide +kernel
theorem d_Rf_take_86 : decode b_Rf_take 86 = .ok (.getfield 16, 3) := by decide +kernel
theorem d_Rf_take_89 : decode b_Rf_take 89 = .ok (.goto 18, 3) := by decide +kernel
theorem d_Rf_take_92 : decode b_Rf_take 92 = .ok (.aload_n 0, 1) := by decide +kernel
theorem d_Rf_take_93 : decode b_Rf_take 93 = .ok (.getfield 27, 3) := by decide +kernel
theorem d_Rf_take_96 : decode b_Rf_take 96 = .ok (.iconst 5, 1) := by decide +kernel
theorem d_Rf_take_97 : decode b_Rf_take 97 = .ok (.aload_n 0, 1) := by decide +kernel
theorem d_Rf_take_98 : decode b_Rf_take 98 = .ok (.iload_n 2, 1) := by decide +kernel
theorem d_Rf_take_99 : decode b_Rf_take 99 = .ok (.invokevirtual 133, 3) := by decide +kernel
theorem d_Rf_take_102 : decode b_Rf_take 102 = .ok (.imul, 1) := by decide +kernel
theorem d_Rf_take_103 : decode b_Rf_take 103 = .ok (.iload 5, 2) := by decide +kernel
theorem d_Rf_take_105 : decode b_Rf_take 105 = .ok (.iadd, 1) := by decide +kernel
theorem d_Rf_take_106 : decode b_Rf_take 106 = .ok (.iaload, 1) := by decide +kernel
theorem d_Rf_take_107 : decode b_Rf_take 107 = .ok (.iastore, 1) := by decide +kernel
theorem d_Rf_take_108 : decode b_Rf_take 108 = .ok (.iinc 5 1, 3) := by decide +kernel
theorem d_Rf_take_111 : decode b_Rf_take 111 = .ok (.goto (-89), 3) := by decide +kernel
theorem d_Rf_take_114 : decode b_Rf_take 114 = .ok (.return_, 1) := by decide +kernel
theorem d_Rf_merge_0 : decode b_Rf_merge 0 = .ok (.bipush 60, 2) := by decide +kernel
theorem d_Rf_merge_2 : decode b_Rf_merge 2 = .ok (.aload_n 0, 1) := by decide +kernel
theorem d_Rf_merge_3 : decode b_Rf_merge 3 = .ok (.getfield 36, 3) := by decide +kernel
theorem d_Rf_merge_6 : decode b_Rf_merge 6 = .ok (.iload_n 1, 1) := by decide +kernel
theorem d_Rf_merge_7 : decode b_Rf_merge 7 = .ok (.iaload, 1) := by decide +kernel
theorem d_Rf_merge_8 : decode b_Rf_merge 8 = .ok (.imul, 1) := by decide +kernel
theorem d_Rf_merge_9 : decode b_Rf_merge 9 = .ok (.iload_n 2, 1) := by decide +kernel
theorem d_Rf_merge_10 : decode b_Rf_merge 10 = .ok (.iadd, 1) := by decide +kernel
theorem d_Rf_merge_11 : decode b_Rf_merge 11 = .ok (.istore_n 3, 1) := by decide +kernel
theorem d_Rf_merge_12 : decode b_Rf_merge 12 = .ok (.bipush 60, 2) := by decide +kernel
theorem d_Rf_merge_14 : decode b_Rf_merge 14 = .ok (.aload_n 0, 1) := by decide +kernel
theorem d_Rf_merge_15 : decode b_Rf_merge 15 = .ok (.getfield 16, 3) := by decide +kernel
theorem d_Rf_merge_18 : decode b_Rf_merge 18 = .ok (.imul, 1) := by decide +kernel
theorem d_Rf_merge_19 : decode b_Rf_merge 19 = .ok (.iload_n 2, 1) := by decide +kernel
theorem d_Rf_merge_20 : decode b_Rf_merge 20 = .ok (.iadd, 1) := by decide +kernel
theorem d_Rf_merge_21 : decode b_Rf_merge 21 = .ok (.istore 4, 2) := by decide +kernel
theorem d_Rf_merge_23 : decode b_Rf_merge 23 = .ok (.aload_n 0, 1) := by decide +kernel
theorem d_Rf_merge_24 : decode b_Rf_merge 24 = .ok (.getfield 20, 3) := by decide +kernel
theorem d_Rf_merge_27 : decode b_Rf_merge 27 = .ok (.aload_n 0, 1) := by decide +kernel
theorem d_Rf_merge_28 : decode b_Rf_merge 28 = .ok (.iload_n 2, 1) := by decide +kernel
theorem d_Rf_merge_29 : decode b_Rf_merge 29 = .ok (.invokevirtual 133, 3) := by decide +kernel
theorem d_Rf_merge_32 : decode b_Rf_merge 32 = .ok (.baload, 1) := by decide +kernel
theorem d_Rf_merge_33 : decode b_Rf_merge 33 = .ok (.istore 5, 2) := by decide +kernel
theorem d_Rf_merge_35 : decode b_Rf_merge 35 = .ok (.aload_n 0, 1) := by decide +kernel
theorem d_Rf_merge_36 : decode b_Rf_merge 36 = .ok (.iload_n 1, 1) := by decide +kernel
theorem d_Rf_merge_37 : decode b_Rf_merge 37 = .ok (.iload_n 2, 1) := by decide +kernel
theorem d_Rf_merge_38 : decode b_Rf_merge 38 = .ok (.invokevirtual 123, 3) := by decide +kernel
theorem d_Rf_merge_41 : decode b_Rf_merge 41 = .ok (.istore 6, 2) := by decide +kernel
theorem d_Rf_merge_43 : decode b_Rf_merge 43 = .ok (.aload_n 0, 1) := by decide +kernel
theorem d_Rf_merge_44 : decode b_Rf_merge 44 = .ok (.getfield 20, 3) := by decide +kernel
theorem d_Rf_merge_47 : decode b_Rf_merge 47 = .ok (.iload 4, 2) := by decide +kernel
theorem d_Rf_merge_49 : decode b_Rf_merge 49 = .ok (.iconst 0, 1) := by decide +kernel
theorem d_Rf_merge_50 : decode b_Rf_merge 50 = .ok (.bastore, 1) := by decide +kernel
theorem d_Rf_merge_51 : decode b_Rf_merge 51 = .ok (.iload 5, 2) := by decide +kernel
theorem d_Rf_merge_53 : decode b_Rf_merge 53 = .ok (.ifCond .eq 8, 3) := by decide +kernel
theorem d_Rf_merge_56 : decode b_Rf_merge 56 = .ok (.iload 6, 2) := by decide +kernel
theorem d_Rf_merge_58 : decode b_Rf_merge 58 = .ok (.ifCond .ne 91, 3) := by decide +kernel
theorem d_Rf_merge_61 : decode b_Rf_merge 61 = .ok (.aload_n 0, 1) := by decide +kernel
theorem d_Rf_merge_62 : decode b_Rf_merge 62 = .ok (.iload_n 2, 1) := by decide +kernel
theorem d_Rf_merge_63 : decode b_Rf_merge 63 = .ok (.iconst (-1), 1) := by decide +kernel
theorem d_Rf_merge_64 : decode b_Rf_merge 64 = .ok (.invokevirtual 144, 3) := by decide +kernel
theorem d_Rf_merge_67 : decode b_Rf_merge 67 = .ok (.istore 7, 2) := by decide +kernel
theorem d_Rf_merge_69 : decode b_Rf_merge 69 = .ok (.aload_n 0, 1) := by decide +kernel
theorem d_Rf_merge_70 : decode b_Rf_merge 70 = .ok (.getfield 20, 3) := by decide +kernel
theorem d_Rf_merge_73 : decode b_Rf_merge 73 = .ok (.iload_n 3, 1) := by decide +kernel
theorem d_Rf_merge_74 : decode b_Rf_merge 74 = .ok (.baload, 1) := by decide +kernel
theorem d_Rf_merge_75 : decode b_Rf_merge 75 = .ok (.ifCond .eq 8, 3) := by decide +kernel
theorem d_Rf_merge_78 : decode b_Rf_merge 78 = .ok (.iload 7, 2) := by decide +kernel
theorem d_Rf_merge_80 : decode b_Rf_merge 80 = .ok (.ifCond .lt 7, 3) := by decide +kernel
theorem d_Rf_merge_83 : decode b_Rf_merge 83 = .ok (.iconst 1, 1) := by decide +kernel
theorem d_Rf_merge_84 : decode b_Rf_merge 84 = .ok (.goto 4, 3) := by decide +kernel
theorem d_Rf_merge_87 : decode b_Rf_merge 87 = .ok (.iconst 0, 1) := by decide +kernel
theorem d_Rf_merge_88 : decode b_Rf_merge 88 = .ok (.istore 8, 2) := by decide +kernel
theorem d_Rf_merge_90 : decode b_Rf_merge 90 = .ok (.aload_n 0, 1) := by decide +kernel
theorem d_Rf_merge_91 : decode b_Rf_merge 91 = .ok (.getfield 20, 3) := by decide +kernel
theorem d_Rf_merge_94 : decode b_Rf_merge 94 = .ok (.iload_n 3, 1) := by decide +kernel
theorem d_Rf_merge_95 : decode b_Rf_merge 95 = .ok (.baload, 1) := by decide +kernel
theorem d_Rf_merge_96 : decode b_Rf_merge 96 = .ok (.ifCond .eq 17, 3) := by decide +kernel
theorem d_Rf_merge_99 : decode b_Rf_merge 99 = .ok (.iload 7, 2) := by decide +kernel
theorem d_Rf_merge_101 : decode b_Rf_merge 101 = .ok (.iconst 1, 1) := by decide +kernel
theorem d_Rf_merge_102 : decode b_Rf_merge 102 = .ok (.if_icmp .ne 7, 3) := by decide +kernel
theorem d_Rf_merge_105 : decode b_Rf_merge 105 = .ok (.iconst 1, 1) := by decide +kernel
theorem d_Rf_merge_106 : decode b_Rf_merge 106 = .ok (.goto 9, 3) := by decide +kernel
theorem d_Rf_merge_109 : decode b_Rf_merge 109 = .ok (.iconst 0, 1) := by decide +kernel
theorem d_Rf_merge_110 : decode b_Rf_merge 110 = .ok (.goto 5, 3) := by decide +kernel
theorem d_Rf_merge_113 : decode b_Rf_merge 113 = .ok (.iload 6, 2) := by decide +kernel
theorem d_Rf_merge_115 : decode b_Rf_merge 115 = .ok (.istore 9, 2) := by decide +kernel
theorem d_Rf_merge_117 : decode b_Rf_merge 117 = .ok (.iload 8, 2) := by decide +kernel
theorem d_Rf_merge_119 : decode b_Rf_merge 119 = .ok (.ifCond .eq 29, 3) := by decide +kernel
theorem d_Rf_merge_122 : decode b_Rf_merge 122 = .ok (.iload 9, 2) := by decide +kernel
theorem d_Rf_merge_124 : decode b_Rf_merge 124 = .ok (.ifCond .eq 11, 3) := by decide +kernel
theorem d_Rf_merge_127 : decode b_Rf_merge 127 = .ok (.iload 6, 2) := by decide +kernel
theorem d_Rf_merge_129 : decode b_Rf_merge 129 = .ok (.ifCond .eq 19, 3) := by decide +kernel
theorem d_Rf_merge_132 : decode b_Rf_merge 132 = .ok (.goto 8, 3) := by decide +kernel
theorem d_Rf_merge_135 : decode b_Rf_merge 135 = .ok (.iload 5, 2) := by decide +kernel
theorem d_Rf_merge_137 : decode b_Rf_merge 137 = .ok (.ifCond .eq 11, 3) := by decide +kernel
theorem d_Rf_merge_140 : decode b_Rf_merge 140 = .ok (.aload_n 0, 1) := by decide +kernel
theorem d_Rf_merge_141 : decode b_Rf_merge 141 = .ok (.iload_n 1, 1) := by decide +kernel
theorem d_Rf_merge_142 : decode b_Rf_merge 142 = .ok (.iload_n 2, 1) := by decide +kernel
theorem d_Rf_merge_143 : decode b_Rf_merge 143 = .ok (.iload 9, 2) := by decide +kernel
theorem d_Rf_merge_145 : decode b_Rf_merge 145 = .ok (.invokevirtual 147, 3) := by decide +kernel
theorem d_Rf_merge_148 : decode b_Rf_merge 148 = .ok (.return_, 1) := by decide +kernel
theorem d_Rf_merge_149 : decode b_Rf_merge 149 = .ok (.aload_n 0, 1) := by decide +kernel
theorem d_Rf_merge_150 : decode b_Rf_merge 150 = .ok (.getfield 20, 3) := by decide +kernel
theorem d_Rf_merge_153 : decode b_Rf_merge 153 = .ok (.iload 4, 2) := by decide +kernel
theorem d_Rf_merge_155 : decode b_Rf_merge 155 = .ok (.iconst 1, 1) := by decide +kernel
theorem d_Rf_merge_156 : decode b_Rf_merge 156 = .ok (.bastore, 1) := by decide +kernel
theorem d_Rf_merge_157 : decode b_Rf_merge 157 = .ok (.iconst 0, 1) := by decide +kernel
theorem d_Rf_merge_158 : decode b_Rf_merge 158 = .ok (.istore 7, 2) := by decide +kernel
theorem d_Rf_merge_160 : decode b_Rf_merge 160 = .ok (.iload 7, 2) := by decide +kernel
theorem d_Rf_merge_162 : decode b_Rf_merge 162 = .ok (.iconst 5, 1) := by decide +kernel
theorem d_Rf_merge_163 : decode b_Rf_merge 163 = .ok (.if_icmp .ge 157, 3) := by decide +kernel
theorem d_Rf_merge_166 : decode b_Rf_merge 166 = .ok (.aload_n 0, 1) := by decide +kernel
theorem d_Rf_merge_167 : decode b_Rf_merge 167 = .ok (.iload_n 2, 1) := by decide +kernel
theorem d_Rf_merge_168 : decode b_Rf_merge 168 = .ok (.iload 7, 2) := by decide +kernel
theorem d_Rf_merge_170 : decode b_Rf_merge 170 = .ok (.invokevirtual 144, 3) := by decide +kernel
theorem d_Rf_merge_173 : decode b_Rf_merge 173 = .ok (.istore 8, 2) := by decide +kernel
theorem d_Rf_merge_175 : decode b_Rf_merge 175 = .ok (.aload_n 0, 1) := by decide +kernel
theorem d_Rf_merge_176 : decode b_Rf_merge 176 = .ok (.getfield 24, 3) := by decide +kernel
theorem d_Rf_merge_179 : decode b_Rf_merge 179 = .ok (.iconst 5, 1) := by decide +kernel
theorem d_Rf_merge_180 : decode b_Rf_merge 180 = .ok (.aload_n 0, 1) := by decide +kernel
theorem d_Rf_merge_181 : decode b_Rf_merge 181 = .ok (.iload_n 2, 1) := by decide +kernel
theorem d_Rf_merge_182 : decode b_Rf_merge 182 = .ok (.invokevirtual 133, 3) := by decide +kernel
theorem d_Rf_merge_185 : decode b_Rf_merge 185 = .ok (.imul, 1) := by decide +kernel
theorem d_Rf_merge_186 : decode b_Rf_merge 186 = .ok (.iload 7, 2) := by decide +kernel
theorem d_Rf_merge_188 : decode b_Rf_merge 188 = .ok (.iadd, 1) := by decide +kernel
theorem d_Rf_merge_189 : decode b_Rf_merge 189 = .ok (.iaload, 1) := by decide +kernel
theorem d_Rf_merge_190 : decode b_Rf_merge 190 = .ok (.istore 9, 2) := by decide +kernel
theorem d_Rf_merge_192 : decode b_Rf_merge 192 = .ok (.aload_n 0, 1) := by decide +kernel
theorem d_Rf_merge_193 : decode b_Rf_merge 193 = .ok (.iload_n 1, 1) := by decide +kernel
theorem d_Rf_merge_194 : decode b_Rf_merge 194 = .ok (.iload_n 2, 1) := by decide +kernel
theorem d_Rf_merge_195 : decode b_Rf_merge 195 = .ok (.iload 7, 2) := by decide +kernel
theorem d_Rf_merge_197 : decode b_Rf_merge 197 = .ok (.invokevirtual 137, 3) := by decide +kernel
theorem d_Rf_merge_200 : decode b_Rf_merge 200 = .ok (.istore 10, 2) := by decide +kernel
theorem d_Rf_merge_202 : decode b_Rf_merge 202 = .ok (.iload 8, 2) := by decide +kernel
theorem d_Rf_merge_204 : decode b_Rf_merge 204 = .ok (.ifCond .ge 27, 3) := by decide +kernel
theorem d_Rf_merge_207 : decode b_Rf_merge 207 = .ok (.iload 10, 2) := by decide +kernel
theorem d_Rf_merge_209 : decode b_Rf_merge 209 = .ok (.aload_n 0, 1) := by decide +kernel
theorem d_Rf_merge_210 : decode b_Rf_merge 210 = .ok (.getfield 24, 3) := by decide +kernel
theorem d_Rf_merge_213 : decode b_Rf_merge 213 = .ok (.iconst 5, 1) := by decide +kernel
theorem d_Rf_merge_214 : decode b_Rf_merge 214 = .ok (.iload_n 3, 1) := by decide +kernel
theorem d_Rf_merge_215 : decode b_Rf_merge 215 = .ok (.imul, 1) := by decide +kernel
theorem d_Rf_merge_216 : decode b_Rf_merge 216 = .ok (.iload 7, 2) := by decide +kernel
theorem d_Rf_merge_218 : decode b_Rf_merge 218 = .ok (.iadd, 1) := by decide +kernel
theorem d_Rf_merge_219 : decode b_Rf_merge 219 = .ok (.iaload, 1) := by decide +kernel
theorem d_Rf_merge_220 : decode b_Rf_merge 220 = .ok (.if_icmp .eq 7, 3) := by decide +kernel
theorem d_Rf_merge_223 : decode b_Rf_merge 223 = .ok (.iconst 1, 1) := by decide +kernel
theorem d_Rf_merge_224 : decode b_Rf_merge 224 = .ok (.goto 18, 3) := by decide +kernel
theorem d_Rf_merge_227 : decode b_Rf_merge 227 = .ok (.iconst 0, 1) := by decide +kernel
theorem d_Rf_merge_228 : decode b_Rf_merge 228 = .ok (.goto 14, 3) := by decide +kernel
theorem d_Rf_merge_231 : decode b_Rf_merge 231 = .ok (.iload 8, 2) := by decide +kernel
theorem d_Rf_merge_233 : decode b_Rf_merge 233 = .ok (.iconst 1, 1) := by decide +kernel
theorem d_Rf_merge_234 : decode b_Rf_merge 234 = .ok (.if_icmp .ne 7, 3) := by decide +kernel
theorem d_Rf_merge_237 : decode b_Rf_merge 237 = .ok (.iconst 1, 1) := by decide +kernel
theorem d_Rf_merge_238 : decode b_Rf_merge 238 = .ok (.goto 4, 3) := by decide +kernel
theorem d_Rf_merge_241 : decode b_Rf_merge 241 = .ok (.iconst 0, 1) := by decide +kernel
theorem d_Rf_merge_242 : decode b_Rf_merge 242 = .ok (.istore 11, 2) := by decide +kernel
theorem d_Rf_merge_244 : decode b_Rf_merge 244 = .ok (.aload_n 0, 1) := by decide +kernel
theorem d_Rf_merge_245 : decode b_Rf_merge 245 = .ok (.getfield 24, 3) := by decide +kernel
theorem d_Rf_merge_248 : decode b_Rf_merge 248 = .ok (.iconst 5, 1) := by decide +kernel
theorem d_Rf_merge_249 : decode b_Rf_merge 249 = .ok (.iload 4, 2) := by decide +kernel
theorem d_Rf_merge_251 : decode b_Rf_merge 251 = .ok (.imul, 1) := by decide +kernel
theorem d_Rf_merge_252 : decode b_Rf_merge 252 = .ok (.iload 7, 2) := by decide +kernel
theorem d_Rf_merge_254 : decode b_Rf_merge 254 = .ok (.iadd, 1) := by decide +kernel
theorem d_Rf_merge_255 : decode b_Rf_merge 255 = .ok (.iload 11, 2) := by decide +kernel
theorem d_Rf_merge_257 : decode b_Rf_merge 257 = .ok (.ifCond .eq 8, 3) := by decide +kernel
theorem d_Rf_merge_260 : decode b_Rf_merge 260 = .ok (.iload 10, 2) := by decide +kernel
theorem d_Rf_merge_262 : decode b_Rf_merge 262 = .ok (.goto 5, 3) := by decide +kernel
theorem d_Rf_merge_265 : decode b_Rf_merge 265 = .ok (.iload 9, 2) := by decide +kernel
theorem d_Rf_merge_267 : decode b_Rf_merge 267 = .ok (.iastore, 1) := by decide +kernel
theorem d_Rf_merge_268 : decode b_Rf_merge 268 = .ok (.aload_n 0, 1) := by decide +kernel
theorem d_Rf_merge_269 : decode b_Rf_merge 269 = .ok (.getfield 27, 3) := by decide +kernel
theorem d_Rf_merge_272 : decode b_Rf_merge 272 = .ok (.iconst 5, 1) := by decide +kernel
theorem d_Rf_merge_273 : decode b_Rf_merge 273 = .ok (.iload 4, 2) := by decide +kernel
theorem d_Rf_merge_275 : decode b_Rf_merge 275 = .ok (.imul, 1) := by decide +kernel
theorem d_Rf_merge_276 : decode b_Rf_merge 276 = .ok (.iload 7, 2) := by decide +kernel
theorem d_Rf_merge_278 : decode b_Rf_merge 278 = .ok (.iadd, 1) := by decide +kernel
theorem d_Rf_merge_279 : decode b_Rf_merge 279 = .ok (.iload 11, 2) := by decide +kernel
theorem d_Rf_merge_281 : decode b_Rf_merge 281 = .ok (.ifCond .eq 17, 3) := by decide +kernel
theorem d_Rf_merge_284 : decode b_Rf_merge 284 = .ok (.iload 10, 2) := by decide +kernel
theorem d_Rf_merge_286 : decode b_Rf_merge 286 = .ok (.iload 9, 2) := by decide +kernel
theorem d_Rf_merge_288 : decode b_Rf_merge 288 = .ok (.if_icmp .eq 10, 3) := by decide +kernel
theorem d_Rf_merge_291 : decode b_Rf_merge 291 = .ok (.aload_n 0, 1) := by decide +kernel
theorem d_Rf_merge_292 : decode b_Rf_merge 292 = .ok (.getfield 16, 3) := by decide +kernel
theorem d_Rf_merge_295 : decode b_Rf_merge 295 = .ok (.goto 18, 3) := by decide +kernel
theorem d_Rf_merge_298 : decode b_Rf_merge 298 = .ok (.aload_n 0, 1) := by decide +kernel
theorem d_Rf_merge_299 : decode b_Rf_merge 299 = .ok (.getfield 27, 3) := by decide +kernel
theorem d_Rf_merge_302 : decode b_Rf_merge 302 = .ok (.iconst 5, 1) := by decide +kernel
theorem d_Rf_merge_303 : decode b_Rf_merge 303 = .ok (.aload_n 0, 1) := by decide +kernel
theorem d_Rf_merge_304 : decode b_Rf_merge 304 = .ok (.iload_n 2, 1) := by decide +kernel
theorem d_Rf_merge_305 : decode b_Rf_merge 305 = .ok (.invokevirtual 133, 3) := by decide +kernel
theorem d_Rf_merge_308 : decode b_Rf_merge 308 = .ok (.imul, 1) := by decide +kernel
theorem d_Rf_merge_309 : decode b_Rf_merge 309 = .ok (.iload 7, 2) := by decide +kernel
theorem d_Rf_merge_311 : decode b_Rf_merge 311 = .ok (.iadd, 1) := by decide +kernel
theorem d_Rf_merge_312 : decode b_Rf_merge 312 = .ok (.iaload, 1) := by decide +kernel
theorem d_Rf_merge_313 : decode b_Rf_merge 313 = .ok (.iastore, 1) := by decide +kernel
theorem d_Rf_merge_314 : decode b_Rf_merge 314 = .ok (.iinc 7 1, 3) := by decide +kernel
theorem d_Rf_merge_317 : decode b_Rf_merge 317 = .ok (.goto (-157), 3) := by decide +kernel
theorem d_Rf_merge_320 : decode b_Rf_merge 320 = .ok (.return_, 1) := by decide +kernel
theorem d_Rf_finish_0 : decode b_Rf_finish 0 = .ok (.iconst 0, 1) := by decide +kernel
theorem d_Rf_finish_1 : decode b_Rf_finish 1 = .ok (.istore_n 2, 1) := by decide +kernel
theorem d_Rf_finish_2 : decode b_Rf_finish 2 = .ok (.iload_n 2, 1) := by decide +kernel
theorem d_Rf_finish_3 : decode b_Rf_finish 3 = .ok (.bipush 60, 2) := by decide +kernel
theorem d_Rf_finish_5 : decode b_Rf_finish 5 = .ok (.if_icmp .ge 24, 3) := by decide +kernel
theorem d_Rf_finish_8 : decode b_Rf_finish 8 = .ok (.aload_n 0, 1) := by decide +kernel
theorem d_Rf_finish_9 : decode b_Rf_finish 9 = .ok (.getfield 20, 3) := by decide +kernel
theorem d_Rf_finish_12 : decode b_Rf_finish 12 = .ok (.bipush 60, 2) := by decide +kernel
theorem d_Rf_finish_14 : decode b_Rf_finish 14 = .ok (.aload_n 0, 1) := by decide +kernel
theorem d_Rf_finish_15 : decode b_Rf_finish 15 = .ok (.getfield 16, 3) := by decide +kernel
theorem d_Rf_finish_18 : decode b_Rf_finish 18 = .ok (.imul, 1) := by decide +kernel
theorem d_Rf_finish_19 : decode b_Rf_finish 19 = .ok (.iload_n 2, 1) := by decide +kernel
theorem d_Rf_finish_20 : decode b_Rf_finish 20 = .ok (.iadd, 1) := by decide +kernel
theorem d_Rf_finish_21 : decode b_Rf_finish 21 = .ok (.iconst 0, 1) := by decide +kernel
theorem d_Rf_finish_22 : decode b_Rf_finish 22 = .ok (.bastore, 1) := by decide +kernel
theorem d_Rf_finish_23 : decode b_Rf_finish 23 = .ok (.iinc 2 1, 3) := by decide +kernel
theorem d_Rf_finish_26 : decode b_Rf_finish 26 = .ok (.goto (-24), 3) := by decide +kernel
theorem d_Rf_finish_29 : decode b_Rf_finish 29 = .ok (.iconst 0, 1) := by decide +kernel
theorem d_Rf_finish_30 : decode b_Rf_finish 30 = .ok (.istore_n 2, 1) := by decide +kernel
theorem d_Rf_finish_31 : decode b_Rf_finish 31 = .ok (.iload_n 2, 1) := by decide +kernel
theorem d_Rf_finish_32 : decode b_Rf_finish 32 = .ok (.aload_n 0, 1) := by decide +kernel
theorem d_Rf_finish_33 : decode b_Rf_finish 33 = .ok (.getfield 116, 3) := by decide +kernel
theorem d_Rf_finish_36 : decode b_Rf_finish 36 = .ok (.if_icmp .ge 15, 3) := by decide +kernel
theorem d_Rf_finish_39 : decode b_Rf_finish 39 = .ok (.aload_n 0, 1) := by decide +kernel
theorem d_Rf_finish_40 : decode b_Rf_finish 40 = .ok (.iload_n 1, 1) := by decide +kernel
theorem d_Rf_finish_41 : decode b_Rf_finish 41 = .ok (.iload_n 2, 1) := by decide +kernel
theorem d_Rf_finish_42 : decode b_Rf_finish 42 = .ok (.invokevirtual 151, 3) := by decide +kernel
theorem d_Rf_finish_45 : decode b_Rf_finish 45 = .ok (.iinc 2 1, 3) := by decide +kernel
theorem d_Rf_finish_48 : decode b_Rf_finish 48 = .ok (.goto (-17), 3) := by decide +kernel
theorem d_Rf_finish_51 : decode b_Rf_finish 51 = .ok (.aload_n 0, 1) := by decide +kernel
theorem d_Rf_finish_52 : decode b_Rf_finish 52 = .ok (.getfield 30, 3) := by decide +kernel
theorem d_Rf_finish_55 : decode b_Rf_finish 55 = .ok (.aload_n 0, 1) := by decide +kernel
theorem d_Rf_finish_56 : decode b_Rf_finish 56 = .ok (.getfield 16, 3) := by decide +kernel
theorem d_Rf_finish_59 : decode b_Rf_finish 59 = .ok (.iload_n 1, 1) := by decide +kernel
theorem d_Rf_finish_60 : decode b_Rf_finish 60 = .ok (.iastore, 1) := by decide +kernel
theorem d_Rf_finish_61 : decode b_Rf_finish 61 = .ok (.aload_n 0, 1) := by decide +kernel
theorem d_Rf_finish_62 : decode b_Rf_finish 62 = .ok (.getfield 48, 3) := by decide +kernel
theorem d_Rf_finish_65 : decode b_Rf_finish 65 = .ok (.iload_n 1, 1) := by decide +kernel
theorem d_Rf_finish_66 : decode b_Rf_finish 66 = .ok (.aload_n 0, 1) := by decide +kernel
theorem d_Rf_finish_67 : decode b_Rf_finish 67 = .ok (.getfield 16, 3) := by decide +kernel
theorem d_Rf_finish_70 : decode b_Rf_finish 70 = .ok (.iastore, 1) := by decide +kernel
theorem d_Rf_finish_71 : decode b_Rf_finish 71 = .ok (.aload_n 0, 1) := by decide +kernel
theorem d_Rf_finish_72 : decode b_Rf_finish 72 = .ok (.getfield 45, 3) := by decide +kernel
theorem d_Rf_finish_75 : decode b_Rf_finish 75 = .ok (.iload_n 1, 1) := by decide +kernel
theorem d_Rf_finish_76 : decode b_Rf_finish 76 = .ok (.iconst 2, 1) := by decide +kernel
theorem d_Rf_finish_77 : decode b_Rf_finish 77 = .ok (.iastore, 1) := by decide +kernel
theorem d_Rf_finish_78 : decode b_Rf_finish 78 = .ok (.aload_n 0, 1) := by decide +kernel
theorem d_Rf_finish_79 : decode b_Rf_finish 79 = .ok (.dup, 1) := by decide +kernel
theorem d_Rf_finish_80 : decode b_Rf_finish 80 = .ok (.getfield 16, 3) := by decide +kernel
theorem d_Rf_finish_83 : decode b_Rf_finish 83 = .ok (.iconst 1, 1) := by decide +kernel
theorem d_Rf_finish_84 : decode b_Rf_finish 84 = .ok (.iadd, 1) := by decide +kernel
theorem d_Rf_finish_85 : decode b_Rf_finish 85 = .ok (.putfield 16, 3) := by decide +kernel
theorem d_Rf_finish_88 : decode b_Rf_finish 88 = .ok (.aload_n 0, 1) := by decide +kernel
theorem d_Rf_finish_89 : decode b_Rf_finish 89 = .ok (.iconst (-1), 1) := by decide +kernel
theorem d_Rf_finish_90 : decode b_Rf_finish 90 = .ok (.putfield 78, 3) := by decide +kernel
theorem d_Rf_finish_93 : decode b_Rf_finish 93 = .ok (.return_, 1) := by decide +kernel
theorem d_Rf_join_0 : decode b_Rf_join 0 = .ok (.aload_n 0, 1) := by decide +kernel
theorem d_Rf_join_1 : decode b_Rf_join 1 = .ok (.iload_n 1, 1) := by decide +kernel
theorem d_Rf_join_2 : decode b_Rf_join 2 = .ok (.aload_n 0, 1) := by decide +kernel
theorem d_Rf_join_3 : decode b_Rf_join 3 = .ok (.getfield 105, 3) := by decide +kernel
theorem d_Rf_join_6 : decode b_Rf_join 6 = .ok (.invokestatic 101, 3) := by decide +kernel
theorem d_Rf_join_9 : decode b_Rf_join 9 = .ok (.aload_n 0, 1) := by decide +kernel
theorem d_Rf_join_10 : decode b_Rf_join 10 = .ok (.iload_n 1, 1) := by decide +kernel
theorem d_Rf_join_11 : decode b_Rf_join 11 = .ok (.invokevirtual 112, 3) := by decide +kernel
theorem d_Rf_join_14 : decode b_Rf_join 14 = .ok (.invokevirtual 108, 3) := by decide +kernel
theorem d_Rf_join_17 : decode b_Rf_join 17 = .ok (.ifCond .ne 5, 3) := by decide +kernel
theorem d_Rf_join_20 : decode b_Rf_join 20 = .ok (.iconst 0, 1) := by decide +kernel
theorem d_Rf_join_21 : decode b_Rf_join 21 = .ok (.ireturn, 1) := by decide +kernel
theorem d_Rf_join_22 : decode b_Rf_join 22 = .ok (.aload_n 0, 1) := by decide +kernel
theorem d_Rf_join_23 : decode b_Rf_join 23 = .ok (.getfield 78, 3) := by decide +kernel
theorem d_Rf_join_26 : decode b_Rf_join 26 = .ok (.ifCond .ge 12, 3) := by decide +kernel
theorem d_Rf_join_29 : decode b_Rf_join 29 = .ok (.aload_n 0, 1) := by decide +kernel
theorem d_Rf_join_30 : decode b_Rf_join 30 = .ok (.getfield 16, 3) := by decide +kernel
theorem d_Rf_join_33 : decode b_Rf_join 33 = .ok (.bipush 40, 2) := by decide +kernel
theorem d_Rf_join_35 : decode b_Rf_join 35 = .ok (.if_icmp .ne 18, 3) := by decide +kernel
theorem d_Rf_join_38 : decode b_Rf_join 38 = .ok (.aload_n 0, 1) := by decide +kernel
theorem d_Rf_join_39 : decode b_Rf_join 39 = .ok (.getfield 78, 3) := by decide +kernel
theorem d_Rf_join_42 : decode b_Rf_join 42 = .ok (.ifCond .lt 8, 3) := by decide +kernel
theorem d_Rf_join_45 : decode b_Rf_join 45 = .ok (.bipush (-5), 2) := by decide +kernel
theorem d_Rf_join_47 : decode b_Rf_join 47 = .ok (.goto 5, 3) := by decide +kernel
theorem d_Rf_join_50 : decode b_Rf_join 50 = .ok (.bipush (-4), 2) := by decide +kernel
theorem d_Rf_join_52 : decode b_Rf_join 52 = .ok (.ireturn, 1) := by decide +kernel
theorem d_Rf_join_53 : decode b_Rf_join 53 = .ok (.aload_n 0, 1) := by decide +kernel
theorem d_Rf_join_54 : decode b_Rf_join 54 = .ok (.iconst 0, 1) := by decide +kernel
theorem d_Rf_join_55 : decode b_Rf_join 55 = .ok (.putfield 141, 3) := by decide +kernel
theorem d_Rf_join_58 : decode b_Rf_join 58 = .ok (.iconst 0, 1) := by decide +kernel
theorem d_Rf_join_59 : decode b_Rf_join 59 = .ok (.istore_n 2, 1) := by decide +kernel
theorem d_Rf_join_60 : decode b_Rf_join 60 = .ok (.iload_n 2, 1) := by decide +kernel
theorem d_Rf_join_61 : decode b_Rf_join 61 = .ok (.aload_n 0, 1) := by decide +kernel
theorem d_Rf_join_62 : decode b_Rf_join 62 = .ok (.getfield 116, 3) := by decide +kernel
theorem d_Rf_join_65 : decode b_Rf_join 65 = .ok (.if_icmp .ge 15, 3) := by decide +kernel
theorem d_Rf_join_68 : decode b_Rf_join 68 = .ok (.aload_n 0, 1) := by decide +kernel
theorem d_Rf_join_69 : decode b_Rf_join 69 = .ok (.iload_n 1, 1) := by decide +kernel
theorem d_Rf_join_70 : decode b_Rf_join 70 = .ok (.iload_n 2, 1) := by decide +kernel
theorem d_Rf_join_71 : decode b_Rf_join 71 = .ok (.invokevirtual 155, 3) := by decide +kernel
theorem d_Rf_join_74 : decode b_Rf_join 74 = .ok (.iinc 2 1, 3) := by decide +kernel
theorem d_Rf_join_77 : decode b_Rf_join 77 = .ok (.goto (-17), 3) := by decide +kernel
theorem d_Rf_join_80 : decode b_Rf_join 80 = .ok (.aload_n 0, 1) := by decide +kernel
theorem d_Rf_join_81 : decode b_Rf_join 81 = .ok (.getfield 141, 3) := by decide +kernel
theorem d_Rf_join_84 : decode b_Rf_join 84 = .ok (.ifCond .ne 10, 3) := by decide +kernel
theorem d_Rf_join_87 : decode b_Rf_join 87 = .ok (.aload_n 0, 1) := by decide +kernel
theorem d_Rf_join_88 : decode b_Rf_join 88 = .ok (.iload_n 1, 1) := by decide +kernel
theorem d_Rf_join_89 : decode b_Rf_join 89 = .ok (.invokevirtual 158, 3) := by decide +kernel
theorem d_Rf_join_92 : decode b_Rf_join 92 = .ok (.iconst 0, 1) := by decide +kernel
theorem d_Rf_join_93 : decode b_Rf_join 93 = .ok (.ireturn, 1) := by decide +kernel
theorem d_Rf_join_94 : decode b_Rf_join 94 = .ok (.aload_n 0, 1) := by decide +kernel
theorem d_Rf_join_95 : decode b_Rf_join 95 = .ok (.getfield 45, 3) := by decide +kernel
theorem d_Rf_join_98 : decode b_Rf_join 98 = .ok (.iload_n 1, 1) := by decide +kernel
theorem d_Rf_join_99 : decode b_Rf_join 99 = .ok (.iconst 1, 1) := by decide +kernel
theorem d_Rf_join_100 : decode b_Rf_join 100 = .ok (.iastore, 1) := by decide +kernel
theorem d_Rf_join_101 : decode b_Rf_join 101 = .ok (.aload_n 0, 1) := by decide +kernel
theorem d_Rf_join_102 : decode b_Rf_join 102 = .ok (.iload_n 1, 1) := by decide +kernel
theorem d_Rf_join_103 : decode b_Rf_join 103 = .ok (.putfield 78, 3) := by decide +kernel
theorem d_Rf_join_106 : decode b_Rf_join 106 = .ok (.aload_n 0, 1) := by decide +kernel
theorem d_Rf_join_107 : decode b_Rf_join 107 = .ok (.getfield 141, 3) := by decide +kernel
theorem d_Rf_join_110 : decode b_Rf_join 110 = .ok (.ireturn, 1) := by decide +kernel
theorem d_Rf_conflict_0 : decode b_Rf_conflict 0 = .ok (.aload_n 0, 1) := by decide +kernel
theorem d_Rf_conflict_1 : decode b_Rf_conflict 1 = .ok (.iload_n 1, 1) := by decide +kernel
theorem d_Rf_conflict_2 : decode b_Rf_conflict 2 = .ok (.ifCond .lt 30, 3) := by decide +kernel
theorem d_Rf_conflict_5 : decode b_Rf_conflict 5 = .ok (.aload_n 0, 1) := by decide +kernel
theorem d_Rf_conflict_6 : decode b_Rf_conflict 6 = .ok (.getfield 78, 3) := by decide +kernel
theorem d_Rf_conflict_9 : decode b_Rf_conflict 9 = .ok (.ifCond .lt 11, 3) := by decide +kernel
theorem d_Rf_conflict_12 : decode b_Rf_conflict 12 = .ok (.iload_n 1, 1) := by decide +kernel
theorem d_Rf_conflict_13 : decode b_Rf_conflict 13 = .ok (.aload_n 0, 1) := by decide +kernel
theorem d_Rf_conflict_14 : decode b_Rf_conflict 14 = .ok (.getfield 141, 3) := by decide +kernel
theorem d_Rf_conflict_17 : decode b_Rf_conflict 17 = .ok (.if_icmp .ge 15, 3) := by decide +kernel
theorem d_Rf_conflict_20 : decode b_Rf_conflict 20 = .ok (.iload_n 2, 1) := by decide +kernel
theorem d_Rf_conflict_21 : decode b_Rf_conflict 21 = .ok (.iconst 5, 1) := by decide +kernel
theorem d_Rf_conflict_22 : decode b_Rf_conflict 22 = .ok (.invokestatic 101, 3) := by decide +kernel
theorem d_Rf_conflict_25 : decode b_Rf_conflict 25 = .ok (.ifCond .eq 7, 3) := by decide +kernel
theorem d_Rf_conflict_28 : decode b_Rf_conflict 28 = .ok (.iconst 1, 1) := by decide +kernel
theorem d_Rf_conflict_29 : decode b_Rf_conflict 29 = .ok (.goto 4, 3) := by decide +kernel
theorem d_Rf_conflict_32 : decode b_Rf_conflict 32 = .ok (.iconst 0, 1) := by decide +kernel
theorem d_Rf_conflict_33 : decode b_Rf_conflict 33 = .ok (.aload_n 0, 1) := by decide +kernel
theorem d_Rf_conflict_34 : decode b_Rf_conflict 34 = .ok (.getfield 78, 3) := by decide +kernel
theorem d_Rf_conflict_37 : decode b_Rf_conflict 37 = .ok (.ifCond .lt 7, 3) := by decide +kernel
theorem d_Rf_conflict_40 : decode b_Rf_conflict 40 = .ok (.iconst 1, 1) := by decide +kernel
theorem d_Rf_conflict_41 : decode b_Rf_conflict 41 = .ok (.goto 4, 3) := by decide +kernel
theorem d_Rf_conflict_44 : decode b_Rf_conflict 44 = .ok (.iconst 0, 1) := by decide +kernel
theorem d_Rf_conflict_45 : decode b_Rf_conflict 45 = .ok (.invokevirtual 108, 3) := by decide +kernel
theorem d_Rf_conflict_48 : decode b_Rf_conflict 48 = .ok (.ifCond .ne 5, 3) := by decide +kernel
theorem d_Rf_conflict_51 : decode b_Rf_conflict 51 = .ok (.iconst 0, 1) := by decide +kernel
theorem d_Rf_conflict_52 : decode b_Rf_conflict 52 = .ok (.ireturn, 1) := by decide +kernel
theorem d_Rf_conflict_53 : decode b_Rf_conflict 53 = .ok (.aload_n 0, 1) := by decide +kernel
theorem d_Rf_conflict_54 : decode b_Rf_conflict 54 = .ok (.getfield 81, 3) := by decide +kernel
theorem d_Rf_conflict_57 : decode b_Rf_conflict 57 = .ok (.iload_n 1, 1) := by decide +kernel
theorem d_Rf_conflict_58 : decode b_Rf_conflict 58 = .ok (.iaload, 1) := by decide +kernel
theorem d_Rf_conflict_59 : decode b_Rf_conflict 59 = .ok (.istore_n 3, 1) := by decide +kernel
theorem d_Rf_conflict_60 : decode b_Rf_conflict 60 = .ok (.aload_n 0, 1) := by decide +kernel
theorem d_Rf_conflict_61 : decode b_Rf_conflict 61 = .ok (.getfield 84, 3) := by decide +kernel
theorem d_Rf_conflict_64 : decode b_Rf_conflict 64 = .ok (.iload_n 1, 1) := by decide +kernel
theorem d_Rf_conflict_65 : decode b_Rf_conflict 65 = .ok (.iaload, 1) := by decide +kernel
theorem d_Rf_conflict_66 : decode b_Rf_conflict 66 = .ok (.istore 4, 2) := by decide +kernel
theorem d_Rf_conflict_68 : decode b_Rf_conflict 68 = .ok (.iload 4, 2) := by decide +kernel
theorem d_Rf_conflict_70 : decode b_Rf_conflict 70 = .ok (.ifCond .ge 7, 3) := by decide +kernel
theorem d_Rf_conflict_73 : decode b_Rf_conflict 73 = .ok (.iconst 1, 1) := by decide +kernel
theorem d_Rf_conflict_74 : decode b_Rf_conflict 74 = .ok (.goto 4, 3) := by decide +kernel
theorem d_Rf_conflict_77 : decode b_Rf_conflict 77 = .ok (.iconst 0, 1) := by decide +kernel
theorem d_Rf_conflict_78 : decode b_Rf_conflict 78 = .ok (.istore 5, 2) := by decide +kernel
theorem d_Rf_conflict_80 : decode b_Rf_conflict 80 = .ok (.iload_n 2, 1) := by decide +kernel
theorem d_Rf_conflict_81 : decode b_Rf_conflict 81 = .ok (.tableswitch 115 0 3 #[31, 33, 36, 78], 31) := by decide +kernel
theorem d_Rf_conflict_112 : decode b_Rf_conflict 112 = .ok (.iload_n 3, 1) := by decide +kernel
theorem d_Rf_conflict_113 : decode b_Rf_conflict 113 = .ok (.ireturn, 1) := by decide +kernel
theorem d_Rf_conflict_114 : decode b_Rf_conflict 114 = .ok (.iload 4, 2) := by decide +kernel
theorem d_Rf_conflict_116 : decode b_Rf_conflict 116 = .ok (.ireturn, 1) := by decide +kernel
theorem d_Rf_conflict_117 : decode b_Rf_conflict 117 = .ok (.iload 5, 2) := by decide +kernel
theorem d_Rf_conflict_119 : decode b_Rf_conflict 119 = .ok (.ifCond .eq 24, 3) := by decide +kernel
theorem d_Rf_conflict_122 : decode b_Rf_conflict 122 = .ok (.aload_n 0, 1) := by decide +kernel
theorem d_Rf_conflict_123 : decode b_Rf_conflict 123 = .ok (.getfield 20, 3) := by decide +kernel
theorem d_Rf_conflict_126 : decode b_Rf_conflict 126 = .ok (.aload_n 0, 1) := by decide +kernel
theorem d_Rf_conflict_127 : decode b_Rf_conflict 127 = .ok (.iload_n 3, 1) := by decide +kernel
theorem d_Rf_conflict_128 : decode b_Rf_conflict 128 = .ok (.invokevirtual 133, 3) := by decide +kernel
theorem d_Rf_conflict_131 : decode b_Rf_conflict 131 = .ok (.baload, 1) := by decide +kernel
theorem d_Rf_conflict_132 : decode b_Rf_conflict 132 = .ok (.ifCond .eq 7, 3) := by decide +kernel
theorem d_Rf_conflict_135 : decode b_Rf_conflict 135 = .ok (.iconst 1, 1) := by decide +kernel
theorem d_Rf_conflict_136 : decode b_Rf_conflict 136 = .ok (.goto 22, 3) := by decide +kernel
theorem d_Rf_conflict_139 : decode b_Rf_conflict 139 = .ok (.iconst 0, 1) := by decide +kernel
theorem d_Rf_conflict_140 : decode b_Rf_conflict 140 = .ok (.goto 18, 3) := by decide +kernel
theorem d_Rf_conflict_143 : decode b_Rf_conflict 143 = .ok (.aload_n 0, 1) := by decide +kernel
theorem d_Rf_conflict_144 : decode b_Rf_conflict 144 = .ok (.getfield 24, 3) := by decide +kernel
theorem d_Rf_conflict_147 : decode b_Rf_conflict 147 = .ok (.iconst 5, 1) := by decide +kernel
theorem d_Rf_conflict_148 : decode b_Rf_conflict 148 = .ok (.aload_n 0, 1) := by decide +kernel
theorem d_Rf_conflict_149 : decode b_Rf_conflict 149 = .ok (.iload_n 3, 1) := by decide +kernel
theorem d_Rf_conflict_150 : decode b_Rf_conflict 150 = .ok (.invokevirtual 133, 3) := by decide +kernel
theorem d_Rf_conflict_153 : decode b_Rf_conflict 153 = .ok (.imul, 1) := by decide +kernel
theorem d_Rf_conflict_154 : decode b_Rf_conflict 154 = .ok (.iload 4, 2) := by decide +kernel
theorem d_Rf_conflict_156 : decode b_Rf_conflict 156 = .ok (.iadd, 1) := by decide +kernel
theorem d_Rf_conflict_157 : decode b_Rf_conflict 157 = .ok (.iaload, 1) := by decide +kernel
theorem d_Rf_conflict_158 : decode b_Rf_conflict 158 = .ok (.ireturn, 1) := by decide +kernel
theorem d_Rf_conflict_159 : decode b_Rf_conflict 159 = .ok (.iload 5, 2) := by decide +kernel
theorem d_Rf_conflict_161 : decode b_Rf_conflict 161 = .ok (.ifCond .eq 23, 3) := by decide +kernel
theorem d_Rf_conflict_164 : decode b_Rf_conflict 164 = .ok (.aload_n 0, 1) := by decide +kernel
theorem d_Rf_conflict_165 : decode b_Rf_conflict 165 = .ok (.aload_n 0, 1) := by decide +kernel
theorem d_Rf_conflict_166 : decode b_Rf_conflict 166 = .ok (.getfield 78, 3) := by decide +kernel
theorem d_Rf_conflict_169 : decode b_Rf_conflict 169 = .ok (.iload_n 3, 1) := by decide +kernel
theorem d_Rf_conflict_170 : decode b_Rf_conflict 170 = .ok (.invokevirtual 123, 3) := by decide +kernel
theorem d_Rf_conflict_173 : decode b_Rf_conflict 173 = .ok (.ifCond .eq 7, 3) := by decide +kernel
theorem d_Rf_conflict_176 : decode b_Rf_conflict 176 = .ok (.iconst 1, 1) := by decide +kernel
theorem d_Rf_conflict_177 : decode b_Rf_conflict 177 = .ok (.goto 18, 3) := by decide +kernel
theorem d_Rf_conflict_180 : decode b_Rf_conflict 180 = .ok (.iconst 0, 1) := by decide +kernel
theorem d_Rf_conflict_181 : decode b_Rf_conflict 181 = .ok (.goto 14, 3) := by decide +kernel
theorem d_Rf_conflict_184 : decode b_Rf_conflict 184 = .ok (.aload_n 0, 1) := by decide +kernel
theorem d_Rf_conflict_185 : decode b_Rf_conflict 185 = .ok (.aload_n 0, 1) := by decide +kernel
theorem d_Rf_conflict_186 : decode b_Rf_conflict 186 = .ok (.getfield 78, 3) := by decide +kernel
theorem d_Rf_conflict_189 : decode b_Rf_conflict 189 = .ok (.iload_n 3, 1) := by decide +kernel
theorem d_Rf_conflict_190 : decode b_Rf_conflict 190 = .ok (.iload 4, 2) := by decide +kernel
theorem d_Rf_conflict_192 : decode b_Rf_conflict 192 = .ok (.invokevirtual 137, 3) := by decide +kernel
theorem d_Rf_conflict_195 : decode b_Rf_conflict 195 = .ok (.ireturn, 1) := by decide +kernel
theorem d_Rf_conflict_196 : decode b_Rf_conflict 196 = .ok (.aload_n 0, 1) := by decide +kernel
theorem d_Rf_conflict_197 : decode b_Rf_conflict 197 = .ok (.getfield 87, 3) := by decide +kernel
theorem d_Rf_conflict_200 : decode b_Rf_conflict 200 = .ok (.iload_n 1, 1) := by decide +kernel
theorem d_Rf_conflict_201 : decode b_Rf_conflict 201 = .ok (.iaload, 1) := by decide +kernel
theorem d_Rf_conflict_202 : decode b_Rf_conflict 202 = .ok (.ireturn, 1) := by decide +kernel

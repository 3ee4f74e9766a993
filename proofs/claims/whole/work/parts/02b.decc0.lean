theorem dX11_init_0 : decode cX11_init 0 = .ok (.aload_n 0, 1) := by decide +kernel
theorem dX11_init_1 : decode cX11_init 1 = .ok (.invokespecial 1, 3) := by decide +kernel
theorem dX11_init_4 : decode cX11_init 4 = .ok (.aload_n 0, 1) := by decide +kernel
theorem dX11_init_5 : decode cX11_init 5 = .ok (.new 7, 3) := by decide +kernel
theorem dX11_init_8 : decode cX11_init 8 = .ok (.dup, 1) := by decide +kernel
theorem dX11_init_9 : decode cX11_init 9 = .ok (.invokespecial 9, 3) := by decide +kernel
theorem dX11_init_12 : decode cX11_init 12 = .ok (.putfield 10, 3) := by decide +kernel
theorem dX11_init_15 : decode cX11_init 15 = .ok (.aload_n 0, 1) := by decide +kernel
theorem dX11_init_16 : decode cX11_init 16 = .ok (.new 16, 3) := by decide +kernel
theorem dX11_init_19 : decode cX11_init 19 = .ok (.dup, 1) := by decide +kernel
theorem dX11_init_20 : decode cX11_init 20 = .ok (.invokespecial 18, 3) := by decide +kernel
theorem dX11_init_23 : decode cX11_init 23 = .ok (.putfield 19, 3) := by decide +kernel
theorem dX11_init_26 : decode cX11_init 26 = .ok (.aload_n 0, 1) := by decide +kernel
theorem dX11_init_27 : decode cX11_init 27 = .ok (.bipush 6, 2) := by decide +kernel
theorem dX11_init_29 : decode cX11_init 29 = .ok (.anewarray 23, 3) := by decide +kernel
theorem dX11_init_32 : decode cX11_init 32 = .ok (.putfield 25, 3) := by decide +kernel
theorem dX11_init_35 : decode cX11_init 35 = .ok (.iconst 0, 1) := by decide +kernel
theorem dX11_init_36 : decode cX11_init 36 = .ok (.istore_n 1, 1) := by decide +kernel
theorem dX11_init_37 : decode cX11_init 37 = .ok (.iload_n 1, 1) := by decide +kernel
theorem dX11_init_38 : decode cX11_init 38 = .ok (.bipush 6, 2) := by decide +kernel
theorem dX11_init_40 : decode cX11_init 40 = .ok (.if_icmp .ge 22, 3) := by decide +kernel
theorem dX11_init_43 : decode cX11_init 43 = .ok (.aload_n 0, 1) := by decide +kernel
theorem dX11_init_44 : decode cX11_init 44 = .ok (.getfield 25, 3) := by decide +kernel
theorem dX11_init_47 : decode cX11_init 47 = .ok (.iload_n 1, 1) := by decide +kernel
theorem dX11_init_48 : decode cX11_init 48 = .ok (.new 23, 3) := by decide +kernel
theorem dX11_init_51 : decode cX11_init 51 = .ok (.dup, 1) := by decide +kernel
theorem dX11_init_52 : decode cX11_init 52 = .ok (.invokespecial 29, 3) := by decide +kernel
theorem dX11_init_55 : decode cX11_init 55 = .ok (.aastore, 1) := by decide +kernel
theorem dX11_init_56 : decode cX11_init 56 = .ok (.iinc 1 1, 3) := by decide +kernel
theorem dX11_init_59 : decode cX11_init 59 = .ok (.goto (-22), 3) := by decide +kernel
theorem dX11_init_62 : decode cX11_init 62 = .ok (.aload_n 0, 1) := by decide +kernel
theorem dX11_init_63 : decode cX11_init 63 = .ok (.bipush 6, 2) := by decide +kernel
theorem dX11_init_65 : decode cX11_init 65 = .ok (.anewarray 30, 3) := by decide +kernel
theorem dX11_init_68 : decode cX11_init 68 = .ok (.putfield 32, 3) := by decide +kernel
theorem dX11_init_71 : decode cX11_init 71 = .ok (.iconst 0, 1) := by decide +kernel
theorem dX11_init_72 : decode cX11_init 72 = .ok (.istore_n 1, 1) := by decide +kernel
theorem dX11_init_73 : decode cX11_init 73 = .ok (.iload_n 1, 1) := by decide +kernel
theorem dX11_init_74 : decode cX11_init 74 = .ok (.bipush 6, 2) := by decide +kernel
theorem dX11_init_76 : decode cX11_init 76 = .ok (.if_icmp .ge 22, 3) := by decide +kernel
theorem dX11_init_79 : decode cX11_init 79 = .ok (.aload_n 0, 1) := by decide +kernel
theorem dX11_init_80 : decode cX11_init 80 = .ok (.getfield 32, 3) := by decide +kernel
theorem dX11_init_83 : decode cX11_init 83 = .ok (.iload_n 1, 1) := by decide +kernel
theorem dX11_init_84 : decode cX11_init 84 = .ok (.new 30, 3) := by decide +kernel
theorem dX11_init_87 : decode cX11_init 87 = .ok (.dup, 1) := by decide +kernel
theorem dX11_init_88 : decode cX11_init 88 = .ok (.invokespecial 36, 3) := by decide +kernel
theorem dX11_init_91 : decode cX11_init 91 = .ok (.aastore, 1) := by decide +kernel
theorem dX11_init_92 : decode cX11_init 92 = .ok (.iinc 1 1, 3) := by decide +kernel
theorem dX11_init_95 : decode cX11_init 95 = .ok (.goto (-22), 3) := by decide +kernel
theorem dX11_init_98 : decode cX11_init 98 = .ok (.aload_n 0, 1) := by decide +kernel
theorem dX11_init_99 : decode cX11_init 99 = .ok (.iconst 4, 1) := by decide +kernel
theorem dX11_init_100 : decode cX11_init 100 = .ok (.anewarray 37, 3) := by decide +kernel
theorem dX11_init_103 : decode cX11_init 103 = .ok (.putfield 39, 3) := by decide +kernel
theorem dX11_init_106 : decode cX11_init 106 = .ok (.iconst 0, 1) := by decide +kernel
theorem dX11_init_107 : decode cX11_init 107 = .ok (.istore_n 1, 1) := by decide +kernel
theorem dX11_init_108 : decode cX11_init 108 = .ok (.iload_n 1, 1) := by decide +kernel
theorem dX11_init_109 : decode cX11_init 109 = .ok (.iconst 4, 1) := by decide +kernel
theorem dX11_init_110 : decode cX11_init 110 = .ok (.if_icmp .ge 22, 3) := by decide +kernel
theorem dX11_init_113 : decode cX11_init 113 = .ok (.aload_n 0, 1) := by decide +kernel
theorem dX11_init_114 : decode cX11_init 114 = .ok (.getfield 39, 3) := by decide +kernel
theorem dX11_init_117 : decode cX11_init 117 = .ok (.iload_n 1, 1) := by decide +kernel
theorem dX11_init_118 : decode cX11_init 118 = .ok (.new 37, 3) := by decide +kernel
theorem dX11_init_121 : decode cX11_init 121 = .ok (.dup, 1) := by decide +kernel
theorem dX11_init_122 : decode cX11_init 122 = .ok (.invokespecial 43, 3) := by decide +kernel
theorem dX11_init_125 : decode cX11_init 125 = .ok (.aastore, 1) := by decide +kernel
theorem dX11_init_126 : decode cX11_init 126 = .ok (.iinc 1 1, 3) := by decide +kernel
theorem dX11_init_129 : decode cX11_init 129 = .ok (.goto (-21), 3) := by decide +kernel
theorem dX11_init_132 : decode cX11_init 132 = .ok (.aload_n 0, 1) := by decide +kernel
theorem dX11_init_133 : decode cX11_init 133 = .ok (.iconst 2, 1) := by decide +kernel
theorem dX11_init_134 : decode cX11_init 134 = .ok (.anewarray 44, 3) := by decide +kernel
theorem dX11_init_137 : decode cX11_init 137 = .ok (.putfield 46, 3) := by decide +kernel
theorem dX11_init_140 : decode cX11_init 140 = .ok (.aload_n 0, 1) := by decide +kernel
theorem dX11_init_141 : decode cX11_init 141 = .ok (.iconst 2, 1) := by decide +kernel
theorem dX11_init_142 : decode cX11_init 142 = .ok (.anewarray 44, 3) := by decide +kernel
theorem dX11_init_145 : decode cX11_init 145 = .ok (.putfield 50, 3) := by decide +kernel
theorem dX11_init_148 : decode cX11_init 148 = .ok (.iconst 0, 1) := by decide +kernel
theorem dX11_init_149 : decode cX11_init 149 = .ok (.istore_n 1, 1) := by decide +kernel
theorem dX11_init_150 : decode cX11_init 150 = .ok (.iload_n 1, 1) := by decide +kernel
theorem dX11_init_151 : decode cX11_init 151 = .ok (.iconst 2, 1) := by decide +kernel
theorem dX11_init_152 : decode cX11_init 152 = .ok (.if_icmp .ge 35, 3) := by decide +kernel
theorem dX11_init_155 : decode cX11_init 155 = .ok (.aload_n 0, 1) := by decide +kernel
theorem dX11_init_156 : decode cX11_init 156 = .ok (.getfield 46, 3) := by decide +kernel
theorem dX11_init_159 : decode cX11_init 159 = .ok (.iload_n 1, 1) := by decide +kernel
theorem dX11_init_160 : decode cX11_init 160 = .ok (.new 44, 3) := by decide +kernel
theorem dX11_init_163 : decode cX11_init 163 = .ok (.dup, 1) := by decide +kernel
theorem dX11_init_164 : decode cX11_init 164 = .ok (.invokespecial 53, 3) := by decide +kernel
theorem dX11_init_167 : decode cX11_init 167 = .ok (.aastore, 1) := by decide +kernel
theorem dX11_init_168 : decode cX11_init 168 = .ok (.aload_n 0, 1) := by decide +kernel
theorem dX11_init_169 : decode cX11_init 169 = .ok (.getfield 50, 3) := by decide +kernel
theorem dX11_init_172 : decode cX11_init 172 = .ok (.iload_n 1, 1) := by decide +kernel
theorem dX11_init_173 : decode cX11_init 173 = .ok (.new 44, 3) := by decide +kernel
theorem dX11_init_176 : decode cX11_init 176 = .ok (.dup, 1) := by decide +kernel
theorem dX11_init_177 : decode cX11_init 177 = .ok (.invokespecial 53, 3) := by decide +kernel
theorem dX11_init_180 : decode cX11_init 180 = .ok (.aastore, 1) := by decide +kernel
theorem dX11_init_181 : decode cX11_init 181 = .ok (.iinc 1 1, 3) := by decide +kernel
theorem dX11_init_184 : decode cX11_init 184 = .ok (.goto (-34), 3) := by decide +kernel
theorem dX11_init_187 : decode cX11_init 187 = .ok (.aload_n 0, 1) := by decide +kernel
theorem dX11_init_188 : decode cX11_init 188 = .ok (.new 54, 3) := by decide +kernel
theorem dX11_init_191 : decode cX11_init 191 = .ok (.dup, 1) := by decide +kernel
theorem dX11_init_192 : decode cX11_init 192 = .ok (.invokespecial 56, 3) := by decide +kernel
theorem dX11_init_195 : decode cX11_init 195 = .ok (.putfield 57, 3) := by decide +kernel
theorem dX11_init_198 : decode cX11_init 198 = .ok (.aload_n 0, 1) := by decide +kernel
theorem dX11_init_199 : decode cX11_init 199 = .ok (.new 61, 3) := by decide +kernel
theorem dX11_init_202 : decode cX11_init 202 = .ok (.dup, 1) := by decide +kernel
theorem dX11_init_203 : decode cX11_init 203 = .ok (.invokespecial 63, 3) := by decide +kernel
theorem dX11_init_206 : decode cX11_init 206 = .ok (.putfield 64, 3) := by decide +kernel
theorem dX11_init_209 : decode cX11_init 209 = .ok (.aload_n 0, 1) := by decide +kernel
theorem dX11_init_210 : decode cX11_init 210 = .ok (.new 68, 3) := by decide +kernel
theorem dX11_init_213 : decode cX11_init 213 = .ok (.dup, 1) := by decide +kernel
theorem dX11_init_214 : decode cX11_init 214 = .ok (.invokespecial 70, 3) := by decide +kernel
theorem dX11_init_217 : decode cX11_init 217 = .ok (.putfield 71, 3) := by decide +kernel
theorem dX11_init_220 : decode cX11_init 220 = .ok (.aload_n 0, 1) := by decide +kernel
theorem dX11_init_221 : decode cX11_init 221 = .ok (.new 75, 3) := by decide +kernel
theorem dX11_init_224 : decode cX11_init 224 = .ok (.dup, 1) := by decide +kernel
theorem dX11_init_225 : decode cX11_init 225 = .ok (.invokespecial 77, 3) := by decide +kernel
theorem dX11_init_228 : decode cX11_init 228 = .ok (.putfield 78, 3) := by decide +kernel
theorem dX11_init_231 : decode cX11_init 231 = .ok (.aload_n 0, 1) := by decide +kernel
theorem dX11_init_232 : decode cX11_init 232 = .ok (.bipush 9, 2) := by decide +kernel
theorem dX11_init_234 : decode cX11_init 234 = .ok (.newarray .int, 2) := by decide +kernel
theorem dX11_init_236 : decode cX11_init 236 = .ok (.putfield 82, 3) := by decide +kernel
theorem dX11_init_239 : decode cX11_init 239 = .ok (.aload_n 0, 1) := by decide +kernel
theorem dX11_init_240 : decode cX11_init 240 = .ok (.new 23, 3) := by decide +kernel
theorem dX11_init_243 : decode cX11_init 243 = .ok (.dup, 1) := by decide +kernel
theorem dX11_init_244 : decode cX11_init 244 = .ok (.invokespecial 29, 3) := by decide +kernel
theorem dX11_init_247 : decode cX11_init 247 = .ok (.putfield 86, 3) := by decide +kernel
theorem dX11_init_250 : decode cX11_init 250 = .ok (.aload_n 0, 1) := by decide +kernel
theorem dX11_init_251 : decode cX11_init 251 = .ok (.new 30, 3) := by decide +kernel
theorem dX11_init_254 : decode cX11_init 254 = .ok (.dup, 1) := by decide +kernel
theorem dX11_init_255 : decode cX11_init 255 = .ok (.invokespecial 36, 3) := by decide +kernel
theorem dX11_init_258 : decode cX11_init 258 = .ok (.putfield 90, 3) := by decide +kernel
theorem dX11_init_261 : decode cX11_init 261 = .ok (.aload_n 0, 1) := by decide +kernel
theorem dX11_init_262 : decode cX11_init 262 = .ok (.new 37, 3) := by decide +kernel
theorem dX11_init_265 : decode cX11_init 265 = .ok (.dup, 1) := by decide +kernel
theorem dX11_init_266 : decode cX11_init 266 = .ok (.invokespecial 43, 3) := by decide +kernel
theorem dX11_init_269 : decode cX11_init 269 = .ok (.putfield 94, 3) := by decide +kernel
theorem dX11_init_272 : decode cX11_init 272 = .ok (.aload_n 0, 1) := by decide +kernel
theorem dX11_init_273 : decode cX11_init 273 = .ok (.iconst (-1), 1) := by decide +kernel
theorem dX11_init_274 : decode cX11_init 274 = .ok (.putfield 98, 3) := by decide +kernel
theorem dX11_init_277 : decode cX11_init 277 = .ok (.return_, 1) := by decide +kernel
theorem dX11_state_0 : decode cX11_state 0 = .ok (.aload_n 0, 1) := by decide +kernel
theorem dX11_state_1 : decode cX11_state 1 = .ok (.getfield 10, 3) := by decide +kernel
theorem dX11_state_4 : decode cX11_state 4 = .ok (.getfield 102, 3) := by decide +kernel
theorem dX11_state_7 : decode cX11_state 7 = .ok (.istore_n 2, 1) := by decide +kernel
theorem dX11_state_8 : decode cX11_state 8 = .ok (.aload_n 0, 1) := by decide +kernel
theorem dX11_state_9 : decode cX11_state 9 = .ok (.getfield 10, 3) := by decide +kernel
theorem dX11_state_12 : decode cX11_state 12 = .ok (.iload_n 1, 1) := by decide +kernel
theorem dX11_state_13 : decode cX11_state 13 = .ok (.putfield 102, 3) := by decide +kernel
theorem dX11_state_16 : decode cX11_state 16 = .ok (.iload_n 2, 1) := by decide +kernel
theorem dX11_state_17 : decode cX11_state 17 = .ok (.ireturn, 1) := by decide +kernel
theorem dX11_beats_0 : decode cX11_beats 0 = .ok (.iload_n 2, 1) := by decide +kernel
theorem dX11_beats_1 : decode cX11_beats 1 = .ok (.iconst 1, 1) := by decide +kernel
theorem dX11_beats_2 : decode cX11_beats 2 = .ok (.if_icmp .lt 23, 3) := by decide +kernel
theorem dX11_beats_5 : decode cX11_beats 5 = .ok (.iload_n 2, 1) := by decide +kernel
theorem dX11_beats_6 : decode cX11_beats 6 = .ok (.iconst 4, 1) := by decide +kernel
theorem dX11_beats_7 : decode cX11_beats 7 = .ok (.if_icmp .gt 18, 3) := by decide +kernel
theorem dX11_beats_10 : decode cX11_beats 10 = .ok (.aload_n 0, 1) := by decide +kernel
theorem dX11_beats_11 : decode cX11_beats 11 = .ok (.getfield 10, 3) := by decide +kernel
theorem dX11_beats_14 : decode cX11_beats 14 = .ok (.getfield 105, 3) := by decide +kernel
theorem dX11_beats_17 : decode cX11_beats 17 = .ok (.iload_n 2, 1) := by decide +kernel
theorem dX11_beats_18 : decode cX11_beats 18 = .ok (.iadd, 1) := by decide +kernel
theorem dX11_beats_19 : decode cX11_beats 19 = .ok (.sipush 2000, 3) := by decide +kernel
theorem dX11_beats_22 : decode cX11_beats 22 = .ok (.if_icmp .le 5, 3) := by decide +kernel
theorem dX11_beats_25 : decode cX11_beats 25 = .ok (.iconst (-1), 1) := by decide +kernel
theorem dX11_beats_26 : decode cX11_beats 26 = .ok (.ireturn, 1) := by decide +kernel
theorem dX11_beats_27 : decode cX11_beats 27 = .ok (.iconst 0, 1) := by decide +kernel
theorem dX11_beats_28 : decode cX11_beats 28 = .ok (.istore_n 3, 1) := by decide +kernel
theorem dX11_beats_29 : decode cX11_beats 29 = .ok (.iload_n 3, 1) := by decide +kernel
theorem dX11_beats_30 : decode cX11_beats 30 = .ok (.iload_n 2, 1) := by decide +kernel
theorem dX11_beats_31 : decode cX11_beats 31 = .ok (.if_icmp .ge 28, 3) := by decide +kernel
theorem dX11_beats_34 : decode cX11_beats 34 = .ok (.aload_n 0, 1) := by decide +kernel
theorem dX11_beats_35 : decode cX11_beats 35 = .ok (.getfield 10, 3) := by decide +kernel
theorem dX11_beats_38 : decode cX11_beats 38 = .ok (.iload_n 1, 1) := by decide +kernel
theorem dX11_beats_39 : decode cX11_beats 39 = .ok (.bipush 24, 2) := by decide +kernel
theorem dX11_beats_41 : decode cX11_beats 41 = .ok (.bipush 8, 2) := by decide +kernel
theorem dX11_beats_43 : decode cX11_beats 43 = .ok (.iload_n 3, 1) := by decide +kernel
theorem dX11_beats_44 : decode cX11_beats 44 = .ok (.imul, 1) := by decide +kernel
theorem dX11_beats_45 : decode cX11_beats 45 = .ok (.isub, 1) := by decide +kernel
theorem dX11_beats_46 : decode cX11_beats 46 = .ok (.iushr, 1) := by decide +kernel
theorem dX11_beats_47 : decode cX11_beats 47 = .ok (.bipush 63, 2) := by decide +kernel
theorem dX11_beats_49 : decode cX11_beats 49 = .ok (.iand, 1) := by decide +kernel
theorem dX11_beats_50 : decode cX11_beats 50 = .ok (.invokevirtual 108, 3) := by decide +kernel
theorem dX11_beats_53 : decode cX11_beats 53 = .ok (.iinc 3 1, 3) := by decide +kernel
theorem dX11_beats_56 : decode cX11_beats 56 = .ok (.goto (-27), 3) := by decide +kernel
theorem dX11_beats_59 : decode cX11_beats 59 = .ok (.aload_n 0, 1) := by decide +kernel
theorem dX11_beats_60 : decode cX11_beats 60 = .ok (.getfield 10, 3) := by decide +kernel
theorem dX11_beats_63 : decode cX11_beats 63 = .ok (.getfield 105, 3) := by decide +kernel
theorem dX11_beats_66 : decode cX11_beats 66 = .ok (.ireturn, 1) := by decide +kernel
theorem dX11_drawn_0 : decode cX11_drawn 0 = .ok (.iload_n 1, 1) := by decide +kernel
theorem dX11_drawn_1 : decode cX11_drawn 1 = .ok (.iconst 1, 1) := by decide +kernel
theorem dX11_drawn_2 : decode cX11_drawn 2 = .ok (.if_icmp .lt 25, 3) := by decide +kernel
theorem dX11_drawn_5 : decode cX11_drawn 5 = .ok (.iload_n 1, 1) := by decide +kernel
theorem dX11_drawn_6 : decode cX11_drawn 6 = .ok (.sipush 500, 3) := by decide +kernel
theorem dX11_drawn_9 : decode cX11_drawn 9 = .ok (.if_icmp .gt 18, 3) := by decide +kernel
theorem dX11_drawn_12 : decode cX11_drawn 12 = .ok (.aload_n 0, 1) := by decide +kernel
theorem dX11_drawn_13 : decode cX11_drawn 13 = .ok (.getfield 10, 3) := by decide +kernel
theorem dX11_drawn_16 : decode cX11_drawn 16 = .ok (.getfield 105, 3) := by decide +kernel
theorem dX11_drawn_19 : decode cX11_drawn 19 = .ok (.iload_n 1, 1) := by decide +kernel
theorem dX11_drawn_20 : decode cX11_drawn 20 = .ok (.iadd, 1) := by decide +kernel
theorem dX11_drawn_21 : decode cX11_drawn 21 = .ok (.sipush 2000, 3) := by decide +kernel
theorem dX11_drawn_24 : decode cX11_drawn 24 = .ok (.if_icmp .le 5, 3) := by decide +kernel
theorem dX11_drawn_27 : decode cX11_drawn 27 = .ok (.iconst (-1), 1) := by decide +kernel
theorem dX11_drawn_28 : decode cX11_drawn 28 = .ok (.ireturn, 1) := by decide +kernel
theorem dX11_drawn_29 : decode cX11_drawn 29 = .ok (.iconst 0, 1) := by decide +kernel
theorem dX11_drawn_30 : decode cX11_drawn 30 = .ok (.istore_n 2, 1) := by decide +kernel
theorem dX11_drawn_31 : decode cX11_drawn 31 = .ok (.iload_n 2, 1) := by decide +kernel
theorem dX11_drawn_32 : decode cX11_drawn 32 = .ok (.iload_n 1, 1) := by decide +kernel
theorem dX11_drawn_33 : decode cX11_drawn 33 = .ok (.if_icmp .ge 16, 3) := by decide +kernel
theorem dX11_drawn_36 : decode cX11_drawn 36 = .ok (.aload_n 0, 1) := by decide +kernel
theorem dX11_drawn_37 : decode cX11_drawn 37 = .ok (.getfield 10, 3) := by decide +kernel
theorem dX11_drawn_40 : decode cX11_drawn 40 = .ok (.invokevirtual 112, 3) := by decide +kernel
theorem dX11_drawn_43 : decode cX11_drawn 43 = .ok (.iinc 2 1, 3) := by decide +kernel
theorem dX11_drawn_46 : decode cX11_drawn 46 = .ok (.goto (-15), 3) := by decide +kernel
theorem dX11_drawn_49 : decode cX11_drawn 49 = .ok (.aload_n 0, 1) := by decide +kernel
theorem dX11_drawn_50 : decode cX11_drawn 50 = .ok (.getfield 10, 3) := by decide +kernel
theorem dX11_drawn_53 : decode cX11_drawn 53 = .ok (.getfield 105, 3) := by decide +kernel
theorem dX11_drawn_56 : decode cX11_drawn 56 = .ok (.ireturn, 1) := by decide +kernel
theorem dX11_hum_0 : decode cX11_hum 0 = .ok (.aload_n 0, 1) := by decide +kernel
theorem dX11_hum_1 : decode cX11_hum 1 = .ok (.getfield 10, 3) := by decide +kernel
theorem dX11_hum_4 : decode cX11_hum 4 = .ok (.iload_n 1, 1) := by decide +kernel
theorem dX11_hum_5 : decode cX11_hum 5 = .ok (.invokevirtual 115, 3) := by decide +kernel
theorem dX11_hum_8 : decode cX11_hum 8 = .ok (.ireturn, 1) := by decide +kernel
theorem dX11_feed_0 : decode cX11_feed 0 = .ok (.aload_n 0, 1) := by decide +kernel
theorem dX11_feed_1 : decode cX11_feed 1 = .ok (.getfield 19, 3) := by decide +kernel
theorem dX11_feed_4 : decode cX11_feed 4 = .ok (.getfield 119, 3) := by decide +kernel
theorem dX11_feed_7 : decode cX11_feed 7 = .ok (.astore 6, 2) := by decide +kernel
theorem dX11_feed_9 : decode cX11_feed 9 = .ok (.aload 6, 2) := by decide +kernel
theorem dX11_feed_11 : decode cX11_feed 11 = .ok (.getfield 123, 3) := by decide +kernel
theorem dX11_feed_14 : decode cX11_feed 14 = .ok (.bipush 20, 2) := by decide +kernel
theorem dX11_feed_16 : decode cX11_feed 16 = .ok (.iadd, 1) := by decide +kernel
theorem dX11_feed_17 : decode cX11_feed 17 = .ok (.sipush 600, 3) := by decide +kernel
theorem dX11_feed_20 : decode cX11_feed 20 = .ok (.if_icmp .le 5, 3) := by decide +kernel
theorem dX11_feed_23 : decode cX11_feed 23 = .ok (.iconst (-1), 1) := by decide +kernel
theorem dX11_feed_24 : decode cX11_feed 24 = .ok (.ireturn, 1) := by decide +kernel
theorem dX11_feed_25 : decode cX11_feed 25 = .ok (.aload 6, 2) := by decide +kernel
theorem dX11_feed_27 : decode cX11_feed 27 = .ok (.iload_n 1, 1) := by decide +kernel
theorem dX11_feed_28 : decode cX11_feed 28 = .ok (.invokevirtual 128, 3) := by decide +kernel
theorem dX11_feed_31 : decode cX11_feed 31 = .ok (.aload 6, 2) := by decide +kernel
theorem dX11_feed_33 : decode cX11_feed 33 = .ok (.iload_n 2, 1) := by decide +kernel
theorem dX11_feed_34 : decode cX11_feed 34 = .ok (.invokevirtual 128, 3) := by decide +kernel
theorem dX11_feed_37 : decode cX11_feed 37 = .ok (.aload 6, 2) := by decide +kernel
theorem dX11_feed_39 : decode cX11_feed 39 = .ok (.iload_n 3, 1) := by decide +kernel
theorem dX11_feed_40 : decode cX11_feed 40 = .ok (.invokevirtual 128, 3) := by decide +kernel
theorem dX11_feed_43 : decode cX11_feed 43 = .ok (.aload 6, 2) := by decide +kernel
theorem dX11_feed_45 : decode cX11_feed 45 = .ok (.iload 4, 2) := by decide +kernel
theorem dX11_feed_47 : decode cX11_feed 47 = .ok (.invokevirtual 128, 3) := by decide +kernel
theorem dX11_feed_50 : decode cX11_feed 50 = .ok (.aload 6, 2) := by decide +kernel
theorem dX11_feed_52 : decode cX11_feed 52 = .ok (.iload 5, 2) := by decide +kernel
theorem dX11_feed_54 : decode cX11_feed 54 = .ok (.invokevirtual 128, 3) := by decide +kernel
theorem dX11_feed_57 : decode cX11_feed 57 = .ok (.aload 6, 2) := by decide +kernel
theorem dX11_feed_59 : decode cX11_feed 59 = .ok (.getfield 123, 3) := by decide +kernel
theorem dX11_feed_62 : decode cX11_feed 62 = .ok (.ireturn, 1) := by decide +kernel
theorem dX11_end_0 : decode cX11_end 0 = .ok (.iload_n 1, 1) := by decide +kernel
theorem dX11_end_1 : decode cX11_end 1 = .ok (.ifCond .lt 17, 3) := by decide +kernel
theorem dX11_end_4 : decode cX11_end 4 = .ok (.iload_n 1, 1) := by decide +kernel
theorem dX11_end_5 : decode cX11_end 5 = .ok (.aload_n 0, 1) := by decide +kernel
theorem dX11_end_6 : decode cX11_end 6 = .ok (.getfield 19, 3) := by decide +kernel
theorem dX11_end_9 : decode cX11_end 9 = .ok (.getfield 119, 3) := by decide +kernel
theorem dX11_end_12 : decode cX11_end 12 = .ok (.getfield 123, 3) := by decide +kernel
theorem dX11_end_15 : decode cX11_end 15 = .ok (.if_icmp .le 5, 3) := by decide +kernel
theorem dX11_end_18 : decode cX11_end 18 = .ok (.iconst 0, 1) := by decide +kernel
theorem dX11_end_19 : decode cX11_end 19 = .ok (.ireturn, 1) := by decide +kernel
theorem dX11_end_20 : decode cX11_end 20 = .ok (.aload_n 0, 1) := by decide +kernel
theorem dX11_end_21 : decode cX11_end 21 = .ok (.getfield 19, 3) := by decide +kernel
theorem dX11_end_24 : decode cX11_end 24 = .ok (.getfield 119, 3) := by decide +kernel
theorem dX11_end_27 : decode cX11_end 27 = .ok (.iload_n 1, 1) := by decide +kernel
theorem dX11_end_28 : decode cX11_end 28 = .ok (.putfield 123, 3) := by decide +kernel
theorem dX11_end_31 : decode cX11_end 31 = .ok (.iconst 1, 1) := by decide +kernel
theorem dX11_end_32 : decode cX11_end 32 = .ok (.ireturn, 1) := by decide +kernel
theorem dX11_text_0 : decode cX11_text 0 = .ok (.aload_n 0, 1) := by decide +kernel
theorem dX11_text_1 : decode cX11_text 1 = .ok (.getfield 19, 3) := by decide +kernel
theorem dX11_text_4 : decode cX11_text 4 = .ok (.iconst 0, 1) := by decide +kernel
theorem dX11_text_5 : decode cX11_text 5 = .ok (.putfield 131, 3) := by decide +kernel
theorem dX11_text_8 : decode cX11_text 8 = .ok (.aload_n 0, 1) := by decide +kernel
theorem dX11_text_9 : decode cX11_text 9 = .ok (.getfield 19, 3) := by decide +kernel
theorem dX11_text_12 : decode cX11_text 12 = .ok (.iconst (-1), 1) := by decide +kernel
theorem dX11_text_13 : decode cX11_text 13 = .ok (.putfield 134, 3) := by decide +kernel
theorem dX11_text_16 : decode cX11_text 16 = .ok (.iconst (-1), 1) := by decide +kernel
theorem dX11_text_17 : decode cX11_text 17 = .ok (.istore_n 3, 1) := by decide +kernel
theorem dX11_text_18 : decode cX11_text 18 = .ok (.iload_n 1, 1) := by decide +kernel
theorem dX11_text_19 : decode cX11_text 19 = .ok (.ifCond .ne 21, 3) := by decide +kernel
theorem dX11_text_22 : decode cX11_text 22 = .ok (.iload_n 2, 1) := by decide +kernel
theorem dX11_text_23 : decode cX11_text 23 = .ok (.iconst 0, 1) := by decide +kernel
theorem dX11_text_24 : decode cX11_text 24 = .ok (.iconst 5, 1) := by decide +kernel
theorem dX11_text_25 : decode cX11_text 25 = .ok (.invokestatic 137, 3) := by decide +kernel
theorem dX11_text_28 : decode cX11_text 28 = .ok (.ifCond .eq 12, 3) := by decide +kernel
theorem dX11_text_31 : decode cX11_text 31 = .ok (.aload_n 0, 1) := by decide +kernel
theorem dX11_text_32 : decode cX11_text 32 = .ok (.iload_n 2, 1) := by decide +kernel
theorem dX11_text_33 : decode cX11_text 33 = .ok (.invokevirtual 141, 3) := by decide +kernel
theorem dX11_text_36 : decode cX11_text 36 = .ok (.istore_n 3, 1) := by decide +kernel
theorem dX11_text_37 : decode cX11_text 37 = .ok (.goto 46, 3) := by decide +kernel
theorem dX11_text_40 : decode cX11_text 40 = .ok (.iload_n 1, 1) := by decide +kernel
theorem dX11_text_41 : decode cX11_text 41 = .ok (.iconst 1, 1) := by decide +kernel
theorem dX11_text_42 : decode cX11_text 42 = .ok (.if_icmp .ne 21, 3) := by decide +kernel
theorem dX11_text_45 : decode cX11_text 45 = .ok (.iload_n 2, 1) := by decide +kernel
theorem dX11_text_46 : decode cX11_text 46 = .ok (.iconst 0, 1) := by decide +kernel
theorem dX11_text_47 : decode cX11_text 47 = .ok (.iconst 5, 1) := by decide +kernel
theorem dX11_text_48 : decode cX11_text 48 = .ok (.invokestatic 137, 3) := by decide +kernel
theorem dX11_text_51 : decode cX11_text 51 = .ok (.ifCond .eq 12, 3) := by decide +kernel
theorem dX11_text_54 : decode cX11_text 54 = .ok (.aload_n 0, 1) := by decide +kernel
theorem dX11_text_55 : decode cX11_text 55 = .ok (.iload_n 2, 1) := by decide +kernel
theorem dX11_text_56 : decode cX11_text 56 = .ok (.invokevirtual 144, 3) := by decide +kernel
theorem dX11_text_59 : decode cX11_text 59 = .ok (.istore_n 3, 1) := by decide +kernel
theorem dX11_text_60 : decode cX11_text 60 = .ok (.goto 23, 3) := by decide +kernel
theorem dX11_text_63 : decode cX11_text 63 = .ok (.iload_n 1, 1) := by decide +kernel
theorem dX11_text_64 : decode cX11_text 64 = .ok (.iconst 2, 1) := by decide +kernel
theorem dX11_text_65 : decode cX11_text 65 = .ok (.if_icmp .ne 18, 3) := by decide +kernel
theorem dX11_text_68 : decode cX11_text 68 = .ok (.iload_n 2, 1) := by decide +kernel
theorem dX11_text_69 : decode cX11_text 69 = .ok (.iconst 0, 1) := by decide +kernel
theorem dX11_text_70 : decode cX11_text 70 = .ok (.iconst 3, 1) := by decide +kernel
theorem dX11_text_71 : decode cX11_text 71 = .ok (.invokestatic 137, 3) := by decide +kernel
theorem dX11_text_74 : decode cX11_text 74 = .ok (.ifCond .eq 9, 3) := by decide +kernel
theorem dX11_text_77 : decode cX11_text 77 = .ok (.aload_n 0, 1) := by decide +kernel
theorem dX11_text_78 : decode cX11_text 78 = .ok (.iload_n 2, 1) := by decide +kernel
theorem dX11_text_79 : decode cX11_text 79 = .ok (.invokevirtual 147, 3) := by decide +kernel
theorem dX11_text_82 : decode cX11_text 82 = .ok (.istore_n 3, 1) := by decide +kernel
theorem dX11_text_83 : decode cX11_text 83 = .ok (.aload_n 0, 1) := by decide +kernel
theorem dX11_text_84 : decode cX11_text 84 = .ok (.getfield 19, 3) := by decide +kernel
theorem dX11_text_87 : decode cX11_text 87 = .ok (.getfield 119, 3) := by decide +kernel
theorem dX11_text_90 : decode cX11_text 90 = .ok (.iconst 0, 1) := by decide +kernel
theorem dX11_text_91 : decode cX11_text 91 = .ok (.putfield 123, 3) := by decide +kernel
theorem dX11_text_94 : decode cX11_text 94 = .ok (.iload_n 3, 1) := by decide +kernel
theorem dX11_text_95 : decode cX11_text 95 = .ok (.ireturn, 1) := by decide +kernel
theorem dX11_takeMachine_0 : decode cX11_takeMachine 0 = .ok (.aload_n 0, 1) := by decide +kernel
theorem dX11_takeMachine_1 : decode cX11_takeMachine 1 = .ok (.getfield 19, 3) := by decide +kernel
theorem dX11_takeMachine_4 : decode cX11_takeMachine 4 = .ok (.aload_n 0, 1) := by decide +kernel
theorem dX11_takeMachine_5 : decode cX11_takeMachine 5 = .ok (.getfield 86, 3) := by decide +kernel
theorem dX11_takeMachine_8 : decode cX11_takeMachine 8 = .ok (.invokevirtual 150, 3) := by decide +kernel
theorem dX11_takeMachine_11 : decode cX11_takeMachine 11 = .ok (.ifCond .ne 5, 3) := by decide +kernel
theorem dX11_takeMachine_14 : decode cX11_takeMachine 14 = .ok (.iconst (-1), 1) := by decide +kernel
theorem dX11_takeMachine_15 : decode cX11_takeMachine 15 = .ok (.ireturn, 1) := by decide +kernel
theorem dX11_takeMachine_16 : decode cX11_takeMachine 16 = .ok (.aload_n 0, 1) := by decide +kernel
theorem dX11_takeMachine_17 : decode cX11_takeMachine 17 = .ok (.getfield 25, 3) := by decide +kernel
theorem dX11_takeMachine_20 : decode cX11_takeMachine 20 = .ok (.iload_n 1, 1) := by decide +kernel
theorem dX11_takeMachine_21 : decode cX11_takeMachine 21 = .ok (.aaload, 1) := by decide +kernel
theorem dX11_takeMachine_22 : decode cX11_takeMachine 22 = .ok (.astore_n 2, 1) := by decide +kernel
theorem dX11_takeMachine_23 : decode cX11_takeMachine 23 = .ok (.aload_n 0, 1) := by decide +kernel
theorem dX11_takeMachine_24 : decode cX11_takeMachine 24 = .ok (.getfield 25, 3) := by decide +kernel
theorem dX11_takeMachine_27 : decode cX11_takeMachine 27 = .ok (.iload_n 1, 1) := by decide +kernel
theorem dX11_takeMachine_28 : decode cX11_takeMachine 28 = .ok (.aload_n 0, 1) := by decide +kernel
theorem dX11_takeMachine_29 : decode cX11_takeMachine 29 = .ok (.getfield 86, 3) := by decide +kernel
theorem dX11_takeMachine_32 : decode cX11_takeMachine 32 = .ok (.aastore, 1) := by decide +kernel
theorem dX11_takeMachine_33 : decode cX11_takeMachine 33 = .ok (.aload_n 0, 1) := by decide +kernel
theorem dX11_takeMachine_34 : decode cX11_takeMachine 34 = .ok (.aload_n 2, 1) := by decide +kernel
theorem dX11_takeMachine_35 : decode cX11_takeMachine 35 = .ok (.putfield 86, 3) := by decide +kernel
theorem dX11_takeMachine_38 : decode cX11_takeMachine 38 = .ok (.aload_n 0, 1) := by decide +kernel
theorem dX11_takeMachine_39 : decode cX11_takeMachine 39 = .ok (.getfield 25, 3) := by decide +kernel
theorem dX11_takeMachine_42 : decode cX11_takeMachine 42 = .ok (.iload_n 1, 1) := by decide +kernel
theorem dX11_takeMachine_43 : decode cX11_takeMachine 43 = .ok (.aaload, 1) := by decide +kernel
theorem dX11_takeMachine_44 : decode cX11_takeMachine 44 = .ok (.getfield 154, 3) := by decide +kernel
theorem dX11_takeMachine_47 : decode cX11_takeMachine 47 = .ok (.ireturn, 1) := by decide +kernel
theorem dX11_takeStory_0 : decode cX11_takeStory 0 = .ok (.aload_n 0, 1) := by decide +kernel
theorem dX11_takeStory_1 : decode cX11_takeStory 1 = .ok (.getfield 19, 3) := by decide +kernel
theorem dX11_takeStory_4 : decode cX11_takeStory 4 = .ok (.aload_n 0, 1) := by decide +kernel
theorem dX11_takeStory_5 : decode cX11_takeStory 5 = .ok (.getfield 90, 3) := by decide +kernel
theorem dX11_takeStory_8 : decode cX11_takeStory 8 = .ok (.invokevirtual 157, 3) := by decide +kernel
theorem dX11_takeStory_11 : decode cX11_takeStory 11 = .ok (.ifCond .ne 5, 3) := by decide +kernel
theorem dX11_takeStory_14 : decode cX11_takeStory 14 = .ok (.iconst (-1), 1) := by decide +kernel
theorem dX11_takeStory_15 : decode cX11_takeStory 15 = .ok (.ireturn, 1) := by decide +kernel
theorem dX11_takeStory_16 : decode cX11_takeStory 16 = .ok (.aload_n 0, 1) := by decide +kernel
theorem dX11_takeStory_17 : decode cX11_takeStory 17 = .ok (.getfield 32, 3) := by decide +kernel
theorem dX11_takeStory_20 : decode cX11_takeStory 20 = .ok (.iload_n 1, 1) := by decide +kernel
theorem dX11_takeStory_21 : decode cX11_takeStory 21 = .ok (.aaload, 1) := by decide +kernel
theorem dX11_takeStory_22 : decode cX11_takeStory 22 = .ok (.astore_n 2, 1) := by decide +kernel
theorem dX11_takeStory_23 : decode cX11_takeStory 23 = .ok (.aload_n 0, 1) := by decide +kernel
theorem dX11_takeStory_24 : decode cX11_takeStory 24 = .ok (.getfield 32, 3) := by decide +kernel
theorem dX11_takeStory_27 : decode cX11_takeStory 27 = .ok (.iload_n 1, 1) := by decide +kernel
theorem dX11_takeStory_28 : decode cX11_takeStory 28 = .ok (.aload_n 0, 1) := by decide +kernel
theorem dX11_takeStory_29 : decode cX11_takeStory 29 = .ok (.getfield 90, 3) := by decide +kernel
theorem dX11_takeStory_32 : decode cX11_takeStory 32 = .ok (.aastore, 1) := by decide +kernel
theorem dX11_takeStory_33 : decode cX11_takeStory 33 = .ok (.aload_n 0, 1) := by decide +kernel
theorem dX11_takeStory_34 : decode cX11_takeStory 34 = .ok (.aload_n 2, 1) := by decide +kernel
theorem dX11_takeStory_35 : decode cX11_takeStory 35 = .ok (.putfield 90, 3) := by decide +kernel
theorem dX11_takeStory_38 : decode cX11_takeStory 38 = .ok (.aload_n 0, 1) := by decide +kernel
theorem dX11_takeStory_39 : decode cX11_takeStory 39 = .ok (.getfield 32, 3) := by decide +kernel
theorem dX11_takeStory_42 : decode cX11_takeStory 42 = .ok (.iload_n 1, 1) := by decide +kernel
theorem dX11_takeStory_43 : decode cX11_takeStory 43 = .ok (.aaload, 1) := by decide +kernel
theorem dX11_takeStory_44 : decode cX11_takeStory 44 = .ok (.getfield 161, 3) := by decide +kernel
theorem dX11_takeStory_47 : decode cX11_takeStory 47 = .ok (.ireturn, 1) := by decide +kernel
theorem dX11_takeReader_0 : decode cX11_takeReader 0 = .ok (.aload_n 0, 1) := by decide +kernel
theorem dX11_takeReader_1 : decode cX11_takeReader 1 = .ok (.getfield 19, 3) := by decide +kernel
theorem dX11_takeReader_4 : decode cX11_takeReader 4 = .ok (.aload_n 0, 1) := by decide +kernel
theorem dX11_takeReader_5 : decode cX11_takeReader 5 = .ok (.getfield 94, 3) := by decide +kernel
theorem dX11_takeReader_8 : decode cX11_takeReader 8 = .ok (.invokevirtual 164, 3) := by decide +kernel
theorem dX11_takeReader_11 : decode cX11_takeReader 11 = .ok (.ifCond .ne 5, 3) := by decide +kernel
theorem dX11_takeReader_14 : decode cX11_takeReader 14 = .ok (.iconst (-1), 1) := by decide +kernel
theorem dX11_takeReader_15 : decode cX11_takeReader 15 = .ok (.ireturn, 1) := by decide +kernel
theorem dX11_takeReader_16 : decode cX11_takeReader 16 = .ok (.aload_n 0, 1) := by decide +kernel
theorem dX11_takeReader_17 : decode cX11_takeReader 17 = .ok (.getfield 39, 3) := by decide +kernel
theorem dX11_takeReader_20 : decode cX11_takeReader 20 = .ok (.iload_n 1, 1) := by decide +kernel
theorem dX11_takeReader_21 : decode cX11_takeReader 21 = .ok (.aaload, 1) := by decide +kernel
theorem dX11_takeReader_22 : decode cX11_takeReader 22 = .ok (.astore_n 2, 1) := by decide +kernel
theorem dX11_takeReader_23 : decode cX11_takeReader 23 = .ok (.aload_n 0, 1) := by decide +kernel
theorem dX11_takeReader_24 : decode cX11_takeReader 24 = .ok (.getfield 39, 3) := by decide +kernel
theorem dX11_takeReader_27 : decode cX11_takeReader 27 = .ok (.iload_n 1, 1) := by decide +kernel
theorem dX11_takeReader_28 : decode cX11_takeReader 28 = .ok (.aload_n 0, 1) := by decide +kernel
theorem dX11_takeReader_29 : decode cX11_takeReader 29 = .ok (.getfield 94, 3) := by decide +kernel
theorem dX11_takeReader_32 : decode cX11_takeReader 32 = .ok (.aastore, 1) := by decide +kernel
theorem dX11_takeReader_33 : decode cX11_takeReader 33 = .ok (.aload_n 0, 1) := by decide +kernel
theorem dX11_takeReader_34 : decode cX11_takeReader 34 = .ok (.aload_n 2, 1) := by decide +kernel
theorem dX11_takeReader_35 : decode cX11_takeReader 35 = .ok (.putfield 94, 3) := by decide +kernel
theorem dX11_takeReader_38 : decode cX11_takeReader 38 = .ok (.aload_n 0, 1) := by decide +kernel
theorem dX11_takeReader_39 : decode cX11_takeReader 39 = .ok (.getfield 39, 3) := by decide +kernel
theorem dX11_takeReader_42 : decode cX11_takeReader 42 = .ok (.iload_n 1, 1) := by decide +kernel
theorem dX11_takeReader_43 : decode cX11_takeReader 43 = .ok (.aaload, 1) := by decide +kernel
theorem dX11_takeReader_44 : decode cX11_takeReader 44 = .ok (.getfield 168, 3) := by decide +kernel
theorem dX11_takeReader_47 : decode cX11_takeReader 47 = .ok (.ireturn, 1) := by decide +kernel
theorem dX11_fault_0 : decode cX11_fault 0 = .ok (.iload_n 1, 1) := by decide +kernel
theorem dX11_fault_1 : decode cX11_fault 1 = .ok (.ifCond .ne 11, 3) := by decide +kernel
theorem dX11_fault_4 : decode cX11_fault 4 = .ok (.aload_n 0, 1) := by decide +kernel
theorem dX11_fault_5 : decode cX11_fault 5 = .ok (.getfield 19, 3) := by decide +kernel
theorem dX11_fault_8 : decode cX11_fault 8 = .ok (.getfield 131, 3) := by decide +kernel
theorem dX11_fault_11 : decode cX11_fault 11 = .ok (.ireturn, 1) := by decide +kernel
theorem dX11_fault_12 : decode cX11_fault 12 = .ok (.iload_n 1, 1) := by decide +kernel
theorem dX11_fault_13 : decode cX11_fault 13 = .ok (.iconst 1, 1) := by decide +kernel
theorem dX11_fault_14 : decode cX11_fault 14 = .ok (.if_icmp .ne 13, 3) := by decide +kernel
theorem dX11_fault_17 : decode cX11_fault 17 = .ok (.aload_n 0, 1) := by decide +kernel
theorem dX11_fault_18 : decode cX11_fault 18 = .ok (.getfield 19, 3) := by decide +kernel
theorem dX11_fault_21 : decode cX11_fault 21 = .ok (.getfield 134, 3) := by decide +kernel
theorem dX11_fault_24 : decode cX11_fault 24 = .ok (.goto 4, 3) := by decide +kernel
theorem dX11_fault_27 : decode cX11_fault 27 = .ok (.iconst (-1), 1) := by decide +kernel
theorem dX11_fault_28 : decode cX11_fault 28 = .ok (.ireturn, 1) := by decide +kernel
theorem dX11_machine_0 : decode cX11_machine 0 = .ok (.iload_n 1, 1) := by decide +kernel
theorem dX11_machine_1 : decode cX11_machine 1 = .ok (.iconst 0, 1) := by decide +kernel
theorem dX11_machine_2 : decode cX11_machine 2 = .ok (.iconst 5, 1) := by decide +kernel
theorem dX11_machine_3 : decode cX11_machine 3 = .ok (.invokestatic 137, 3) := by decide +kernel
theorem dX11_machine_6 : decode cX11_machine 6 = .ok (.ifCond .eq 13, 3) := by decide +kernel
theorem dX11_machine_9 : decode cX11_machine 9 = .ok (.iload_n 2, 1) := by decide +kernel
theorem dX11_machine_10 : decode cX11_machine 10 = .ok (.iconst 0, 1) := by decide +kernel
theorem dX11_machine_11 : decode cX11_machine 11 = .ok (.bipush 7, 2) := by decide +kernel
theorem dX11_machine_13 : decode cX11_machine 13 = .ok (.invokestatic 137, 3) := by decide +kernel
theorem dX11_machine_16 : decode cX11_machine 16 = .ok (.ifCond .ne 5, 3) := by decide +kernel
theorem dX11_machine_19 : decode cX11_machine 19 = .ok (.iconst (-1), 1) := by decide +kernel
theorem dX11_machine_20 : decode cX11_machine 20 = .ok (.ireturn, 1) := by decide +kernel
theorem dX11_machine_21 : decode cX11_machine 21 = .ok (.aload_n 0, 1) := by decide +kernel
theorem dX11_machine_22 : decode cX11_machine 22 = .ok (.getfield 25, 3) := by decide +kernel
theorem dX11_machine_25 : decode cX11_machine 25 = .ok (.iload_n 1, 1) := by decide +kernel
theorem dX11_machine_26 : decode cX11_machine 26 = .ok (.aaload, 1) := by decide +kernel
theorem dX11_machine_27 : decode cX11_machine 27 = .ok (.getfield 169, 3) := by decide +kernel
theorem dX11_machine_30 : decode cX11_machine 30 = .ok (.iload_n 2, 1) := by decide +kernel
theorem dX11_machine_31 : decode cX11_machine 31 = .ok (.iaload, 1) := by decide +kernel
theorem dX11_machine_32 : decode cX11_machine 32 = .ok (.ireturn, 1) := by decide +kernel
theorem dX11_run_0 : decode cX11_run 0 = .ok (.iload_n 1, 1) := by decide +kernel
theorem dX11_run_1 : decode cX11_run 1 = .ok (.iconst 0, 1) := by decide +kernel
theorem dX11_run_2 : decode cX11_run 2 = .ok (.iconst 5, 1) := by decide +kernel
theorem dX11_run_3 : decode cX11_run 3 = .ok (.invokestatic 137, 3) := by decide +kernel
theorem dX11_run_6 : decode cX11_run 6 = .ok (.ifCond .ne 5, 3) := by decide +kernel
theorem dX11_run_9 : decode cX11_run 9 = .ok (.iconst (-1), 1) := by decide +kernel
theorem dX11_run_10 : decode cX11_run 10 = .ok (.ireturn, 1) := by decide +kernel
theorem dX11_run_11 : decode cX11_run 11 = .ok (.aload_n 0, 1) := by decide +kernel
theorem dX11_run_12 : decode cX11_run 12 = .ok (.getfield 57, 3) := by decide +kernel
theorem dX11_run_15 : decode cX11_run 15 = .ok (.aload_n 0, 1) := by decide +kernel
theorem dX11_run_16 : decode cX11_run 16 = .ok (.getfield 32, 3) := by decide +kernel
theorem dX11_run_19 : decode cX11_run 19 = .ok (.iload_n 1, 1) := by decide +kernel
theorem dX11_run_20 : decode cX11_run 20 = .ok (.aaload, 1) := by decide +kernel
theorem dX11_run_21 : decode cX11_run 21 = .ok (.aload_n 0, 1) := by decide +kernel
theorem dX11_run_22 : decode cX11_run 22 = .ok (.getfield 25, 3) := by decide +kernel
theorem dX11_run_25 : decode cX11_run 25 = .ok (.aload_n 0, 1) := by decide +kernel
theorem dX11_run_26 : decode cX11_run 26 = .ok (.getfield 10, 3) := by decide +kernel
theorem dX11_run_29 : decode cX11_run 29 = .ok (.aload_n 0, 1) := by decide +kernel
theorem dX11_run_30 : decode cX11_run 30 = .ok (.getfield 46, 3) := by decide +kernel
theorem dX11_run_33 : decode cX11_run 33 = .ok (.invokevirtual 172, 3) := by decide +kernel
theorem dX11_run_36 : decode cX11_run 36 = .ok (.aload_n 0, 1) := by decide +kernel
theorem dX11_run_37 : decode cX11_run 37 = .ok (.iload_n 1, 1) := by decide +kernel
theorem dX11_run_38 : decode cX11_run 38 = .ok (.putfield 98, 3) := by decide +kernel
theorem dX11_run_41 : decode cX11_run 41 = .ok (.aload_n 0, 1) := by decide +kernel
theorem dX11_run_42 : decode cX11_run 42 = .ok (.getfield 46, 3) := by decide +kernel
theorem dX11_run_45 : decode cX11_run 45 = .ok (.iconst 0, 1) := by decide +kernel
theorem dX11_run_46 : decode cX11_run 46 = .ok (.aaload, 1) := by decide +kernel
theorem dX11_run_47 : decode cX11_run 47 = .ok (.bipush 7, 2) := by decide +kernel
theorem dX11_run_49 : decode cX11_run 49 = .ok (.iconst 0, 1) := by decide +kernel
theorem dX11_run_50 : decode cX11_run 50 = .ok (.invokevirtual 176, 3) := by decide +kernel
theorem dX11_run_53 : decode cX11_run 53 = .ok (.aload_n 0, 1) := by decide +kernel
theorem dX11_run_54 : decode cX11_run 54 = .ok (.getfield 46, 3) := by decide +kernel
theorem dX11_run_57 : decode cX11_run 57 = .ok (.iconst 1, 1) := by decide +kernel
theorem dX11_run_58 : decode cX11_run 58 = .ok (.aaload, 1) := by decide +kernel
theorem dX11_run_59 : decode cX11_run 59 = .ok (.bipush 7, 2) := by decide +kernel
theorem dX11_run_61 : decode cX11_run 61 = .ok (.iconst 0, 1) := by decide +kernel
theorem dX11_run_62 : decode cX11_run 62 = .ok (.invokevirtual 176, 3) := by decide +kernel
theorem dX11_run_65 : decode cX11_run 65 = .ok (.iadd, 1) := by decide +kernel
theorem dX11_run_66 : decode cX11_run 66 = .ok (.ireturn, 1) := by decide +kernel
theorem dX11_at_0 : decode cX11_at 0 = .ok (.iload_n 1, 1) := by decide +kernel
theorem dX11_at_1 : decode cX11_at 1 = .ok (.iload_n 2, 1) := by decide +kernel
theorem dX11_at_2 : decode cX11_at 2 = .ok (.iload_n 2, 1) := by decide +kernel
theorem dX11_at_3 : decode cX11_at 3 = .ok (.invokestatic 180, 3) := by decide +kernel
theorem dX11_at_6 : decode cX11_at 6 = .ok (.ifCond .eq 13, 3) := by decide +kernel
theorem dX11_at_9 : decode cX11_at 9 = .ok (.iload_n 3, 1) := by decide +kernel
theorem dX11_at_10 : decode cX11_at 10 = .ok (.iconst 0, 1) := by decide +kernel
theorem dX11_at_11 : decode cX11_at 11 = .ok (.bipush 9, 2) := by decide +kernel
theorem dX11_at_13 : decode cX11_at 13 = .ok (.invokestatic 137, 3) := by decide +kernel
theorem dX11_at_16 : decode cX11_at 16 = .ok (.ifCond .ne 6, 3) := by decide +kernel
theorem dX11_at_19 : decode cX11_at 19 = .ok (.bipush (-2), 2) := by decide +kernel
theorem dX11_at_21 : decode cX11_at 21 = .ok (.ireturn, 1) := by decide +kernel
theorem dX11_at_22 : decode cX11_at 22 = .ok (.aload_n 0, 1) := by decide +kernel
theorem dX11_at_23 : decode cX11_at 23 = .ok (.getfield 46, 3) := by decide +kernel
theorem dX11_at_26 : decode cX11_at 26 = .ok (.iload_n 1, 1) := by decide +kernel
theorem dX11_at_27 : decode cX11_at 27 = .ok (.aaload, 1) := by decide +kernel
theorem dX11_at_28 : decode cX11_at 28 = .ok (.getfield 183, 3) := by decide +kernel
theorem dX11_at_31 : decode cX11_at 31 = .ok (.iload_n 3, 1) := by decide +kernel
theorem dX11_at_32 : decode cX11_at 32 = .ok (.aaload, 1) := by decide +kernel
theorem dX11_at_33 : decode cX11_at 33 = .ok (.iload_n 2, 1) := by decide +kernel
theorem dX11_at_34 : decode cX11_at 34 = .ok (.iaload, 1) := by decide +kernel
theorem dX11_at_35 : decode cX11_at 35 = .ok (.ireturn, 1) := by decide +kernel
theorem dX11_heard_0 : decode cX11_heard 0 = .ok (.iload_n 1, 1) := by decide +kernel
theorem dX11_heard_1 : decode cX11_heard 1 = .ok (.iload_n 2, 1) := by decide +kernel
theorem dX11_heard_2 : decode cX11_heard 2 = .ok (.iload_n 2, 1) := by decide +kernel
theorem dX11_heard_3 : decode cX11_heard 3 = .ok (.invokestatic 180, 3) := by decide +kernel
theorem dX11_heard_6 : decode cX11_heard 6 = .ok (.ifCond .eq 13, 3) := by decide +kernel
theorem dX11_heard_9 : decode cX11_heard 9 = .ok (.iload_n 3, 1) := by decide +kernel
theorem dX11_heard_10 : decode cX11_heard 10 = .ok (.iconst 0, 1) := by decide +kernel
theorem dX11_heard_11 : decode cX11_heard 11 = .ok (.bipush 6, 2) := by decide +kernel
theorem dX11_heard_13 : decode cX11_heard 13 = .ok (.invokestatic 137, 3) := by decide +kernel
theorem dX11_heard_16 : decode cX11_heard 16 = .ok (.ifCond .ne 5, 3) := by decide +kernel
theorem dX11_heard_19 : decode cX11_heard 19 = .ok (.iconst 0, 1) := by decide +kernel
theorem dX11_heard_20 : decode cX11_heard 20 = .ok (.ireturn, 1) := by decide +kernel
theorem dX11_heard_21 : decode cX11_heard 21 = .ok (.aload_n 0, 1) := by decide +kernel
theorem dX11_heard_22 : decode cX11_heard 22 = .ok (.getfield 46, 3) := by decide +kernel
theorem dX11_heard_25 : decode cX11_heard 25 = .ok (.iload_n 1, 1) := by decide +kernel
theorem dX11_heard_26 : decode cX11_heard 26 = .ok (.aaload, 1) := by decide +kernel
theorem dX11_heard_27 : decode cX11_heard 27 = .ok (.astore 5, 2) := by decide +kernel
theorem dX11_heard_29 : decode cX11_heard 29 = .ok (.aload 5, 2) := by decide +kernel
theorem dX11_heard_31 : decode cX11_heard 31 = .ok (.iload_n 2, 1) := by decide +kernel
theorem dX11_heard_32 : decode cX11_heard 32 = .ok (.invokevirtual 187, 3) := by decide +kernel
theorem dX11_heard_35 : decode cX11_heard 35 = .ok (.ifCond .ne 15, 3) := by decide +kernel
theorem dX11_heard_38 : decode cX11_heard 38 = .ok (.aload 5, 2) := by decide +kernel
theorem dX11_heard_40 : decode cX11_heard 40 = .ok (.iload_n 2, 1) := by decide +kernel
theorem dX11_heard_41 : decode cX11_heard 41 = .ok (.iload_n 3, 1) := by decide +kernel
theorem dX11_heard_42 : decode cX11_heard 42 = .ok (.iload 4, 2) := by decide +kernel
theorem dX11_heard_44 : decode cX11_heard 44 = .ok (.invokevirtual 191, 3) := by decide +kernel
theorem dX11_heard_47 : decode cX11_heard 47 = .ok (.ifCond .ne 5, 3) := by decide +kernel
theorem dX11_heard_50 : decode cX11_heard 50 = .ok (.iconst 0, 1) := by decide +kernel
theorem dX11_heard_51 : decode cX11_heard 51 = .ok (.ireturn, 1) := by decide +kernel
theorem dX11_heard_52 : decode cX11_heard 52 = .ok (.aload 5, 2) := by decide +kernel
theorem dX11_heard_54 : decode cX11_heard 54 = .ok (.getfield 183, 3) := by decide +kernel
theorem dX11_heard_57 : decode cX11_heard 57 = .ok (.iload_n 3, 1) := by decide +kernel
theorem dX11_heard_58 : decode cX11_heard 58 = .ok (.aaload, 1) := by decide +kernel
theorem dX11_heard_59 : decode cX11_heard 59 = .ok (.iload_n 2, 1) := by decide +kernel
theorem dX11_heard_60 : decode cX11_heard 60 = .ok (.iload 4, 2) := by decide +kernel
theorem dX11_heard_62 : decode cX11_heard 62 = .ok (.iastore, 1) := by decide +kernel
theorem dX11_heard_63 : decode cX11_heard 63 = .ok (.iconst 1, 1) := by decide +kernel
theorem dX11_heard_64 : decode cX11_heard 64 = .ok (.ireturn, 1) := by decide +kernel
theorem dX11_marks_0 : decode cX11_marks 0 = .ok (.iload_n 1, 1) := by decide +kernel
theorem dX11_marks_1 : decode cX11_marks 1 = .ok (.iload_n 2, 1) := by decide +kernel
theorem dX11_marks_2 : decode cX11_marks 2 = .ok (.iload_n 3, 1) := by decide +kernel
theorem dX11_marks_3 : decode cX11_marks 3 = .ok (.invokestatic 180, 3) := by decide +kernel
theorem dX11_marks_6 : decode cX11_marks 6 = .ok (.ifCond .eq 8, 3) := by decide +kernel
theorem dX11_marks_9 : decode cX11_marks 9 = .ok (.iload 4, 2) := by decide +kernel
theorem dX11_marks_11 : decode cX11_marks 11 = .ok (.ifCond .ge 5, 3) := by decide +kernel
theorem dX11_marks_14 : decode cX11_marks 14 = .ok (.iconst (-1), 1) := by decide +kernel
theorem dX11_marks_15 : decode cX11_marks 15 = .ok (.ireturn, 1) := by decide +kernel
theorem dX11_marks_16 : decode cX11_marks 16 = .ok (.iconst 0, 1) := by decide +kernel
theorem dX11_marks_17 : decode cX11_marks 17 = .ok (.istore 5, 2) := by decide +kernel
theorem dX11_marks_19 : decode cX11_marks 19 = .ok (.iload_n 2, 1) := by decide +kernel
theorem dX11_marks_20 : decode cX11_marks 20 = .ok (.istore 6, 2) := by decide +kernel
theorem dX11_marks_22 : decode cX11_marks 22 = .ok (.iload 6, 2) := by decide +kernel
theorem dX11_marks_24 : decode cX11_marks 24 = .ok (.iload_n 3, 1) := by decide +kernel
theorem dX11_marks_25 : decode cX11_marks 25 = .ok (.if_icmp .gt 39, 3) := by decide +kernel
theorem dX11_marks_28 : decode cX11_marks 28 = .ok (.aload_n 0, 1) := by decide +kernel
theorem dX11_marks_29 : decode cX11_marks 29 = .ok (.getfield 46, 3) := by decide +kernel
theorem dX11_marks_32 : decode cX11_marks 32 = .ok (.iload_n 1, 1) := by decide +kernel
theorem dX11_marks_33 : decode cX11_marks 33 = .ok (.aaload, 1) := by decide +kernel
theorem dX11_marks_34 : decode cX11_marks 34 = .ok (.getfield 183, 3) := by decide +kernel
theorem dX11_marks_37 : decode cX11_marks 37 = .ok (.iconst 5, 1) := by decide +kernel
theorem dX11_marks_38 : decode cX11_marks 38 = .ok (.aaload, 1) := by decide +kernel
theorem dX11_marks_39 : decode cX11_marks 39 = .ok (.iload 6, 2) := by decide +kernel
theorem dX11_marks_41 : decode cX11_marks 41 = .ok (.iaload, 1) := by decide +kernel
theorem dX11_marks_42 : decode cX11_marks 42 = .ok (.ifCond .eq 16, 3) := by decide +kernel
theorem dX11_marks_45 : decode cX11_marks 45 = .ok (.iinc 5 1, 3) := by decide +kernel
theorem dX11_marks_48 : decode cX11_marks 48 = .ok (.iload 5, 2) := by decide +kernel
theorem dX11_marks_50 : decode cX11_marks 50 = .ok (.iload 4, 2) := by decide +kernel
theorem dX11_marks_52 : decode cX11_marks 52 = .ok (.if_icmp .ne 6, 3) := by decide +kernel
theorem dX11_marks_55 : decode cX11_marks 55 = .ok (.iload 6, 2) := by decide +kernel
theorem dX11_marks_57 : decode cX11_marks 57 = .ok (.ireturn, 1) := by decide +kernel
theorem dX11_marks_58 : decode cX11_marks 58 = .ok (.iinc 6 1, 3) := by decide +kernel
theorem dX11_marks_61 : decode cX11_marks 61 = .ok (.goto (-39), 3) := by decide +kernel
theorem dX11_marks_64 : decode cX11_marks 64 = .ok (.iload 4, 2) := by decide +kernel
theorem dX11_marks_66 : decode cX11_marks 66 = .ok (.ifCond .ne 8, 3) := by decide +kernel
theorem dX11_marks_69 : decode cX11_marks 69 = .ok (.iload 5, 2) := by decide +kernel
theorem dX11_marks_71 : decode cX11_marks 71 = .ok (.goto 4, 3) := by decide +kernel
theorem dX11_marks_74 : decode cX11_marks 74 = .ok (.iconst (-1), 1) := by decide +kernel
theorem dX11_marks_75 : decode cX11_marks 75 = .ok (.ireturn, 1) := by decide +kernel
theorem dX11_settings_0 : decode cX11_settings 0 = .ok (.iload_n 1, 1) := by decide +kernel
theorem dX11_settings_1 : decode cX11_settings 1 = .ok (.iload_n 2, 1) := by decide +kernel
theorem dX11_settings_2 : decode cX11_settings 2 = .ok (.iload_n 3, 1) := by decide +kernel
theorem dX11_settings_3 : decode cX11_settings 3 = .ok (.invokestatic 180, 3) := by decide +kernel
theorem dX11_settings_6 : decode cX11_settings 6 = .ok (.ifCond .eq 27, 3) := by decide +kernel
theorem dX11_settings_9 : decode cX11_settings 9 = .ok (.iload_n 3, 1) := by decide +kernel
theorem dX11_settings_10 : decode cX11_settings 10 = .ok (.iload_n 2, 1) := by decide +kernel
theorem dX11_settings_11 : decode cX11_settings 11 = .ok (.isub, 1) := by decide +kernel
theorem dX11_settings_12 : decode cX11_settings 12 = .ok (.iconst 1, 1) := by decide +kernel
theorem dX11_settings_13 : decode cX11_settings 13 = .ok (.iadd, 1) := by decide +kernel
theorem dX11_settings_14 : decode cX11_settings 14 = .ok (.bipush 40, 2) := by decide +kernel
theorem dX11_settings_16 : decode cX11_settings 16 = .ok (.if_icmp .gt 17, 3) := by decide +kernel
theorem dX11_settings_19 : decode cX11_settings 19 = .ok (.aload_n 0, 1) := by decide +kernel
theorem dX11_settings_20 : decode cX11_settings 20 = .ok (.getfield 46, 3) := by decide +kernel
theorem dX11_settings_23 : decode cX11_settings 23 = .ok (.iload_n 1, 1) := by decide +kernel
theorem dX11_settings_24 : decode cX11_settings 24 = .ok (.aaload, 1) := by decide +kernel
theorem dX11_settings_25 : decode cX11_settings 25 = .ok (.iload_n 2, 1) := by decide +kernel
theorem dX11_settings_26 : decode cX11_settings 26 = .ok (.iload_n 3, 1) := by decide +kernel
theorem dX11_settings_27 : decode cX11_settings 27 = .ok (.invokevirtual 194, 3) := by decide +kernel
theorem dX11_settings_30 : decode cX11_settings 30 = .ok (.ifCond .eq 5, 3) := by decide +kernel
theorem dX11_settings_33 : decode cX11_settings 33 = .ok (.iconst (-1), 1) := by decide +kernel
theorem dX11_settings_34 : decode cX11_settings 34 = .ok (.ireturn, 1) := by decide +kernel
theorem dX11_settings_35 : decode cX11_settings 35 = .ok (.aload_n 0, 1) := by decide +kernel
theorem dX11_settings_36 : decode cX11_settings 36 = .ok (.getfield 71, 3) := by decide +kernel
theorem dX11_settings_39 : decode cX11_settings 39 = .ok (.aload_n 0, 1) := by decide +kernel
theorem dX11_settings_40 : decode cX11_settings 40 = .ok (.getfield 46, 3) := by decide +kernel
theorem dX11_settings_43 : decode cX11_settings 43 = .ok (.iload_n 1, 1) := by decide +kernel
theorem dX11_settings_44 : decode cX11_settings 44 = .ok (.aaload, 1) := by decide +kernel
theorem dX11_settings_45 : decode cX11_settings 45 = .ok (.iload_n 2, 1) := by decide +kernel
theorem dX11_settings_46 : decode cX11_settings 46 = .ok (.iload_n 3, 1) := by decide +kernel
theorem dX11_settings_47 : decode cX11_settings 47 = .ok (.iload_n 2, 1) := by decide +kernel
theorem dX11_settings_48 : decode cX11_settings 48 = .ok (.isub, 1) := by decide +kernel
theorem dX11_settings_49 : decode cX11_settings 49 = .ok (.iconst 1, 1) := by decide +kernel
theorem dX11_settings_50 : decode cX11_settings 50 = .ok (.iadd, 1) := by decide +kernel
theorem dX11_settings_51 : decode cX11_settings 51 = .ok (.invokevirtual 198, 3) := by decide +kernel
theorem dX11_settings_54 : decode cX11_settings 54 = .ok (.ireturn, 1) := by decide +kernel
theorem dX11_which_0 : decode cX11_which 0 = .ok (.iload_n 1, 1) := by decide +kernel
theorem dX11_which_1 : decode cX11_which 1 = .ok (.iload_n 2, 1) := by decide +kernel
theorem dX11_which_2 : decode cX11_which 2 = .ok (.iload_n 3, 1) := by decide +kernel
theorem dX11_which_3 : decode cX11_which 3 = .ok (.invokestatic 180, 3) := by decide +kernel
theorem dX11_which_6 : decode cX11_which 6 = .ok (.ifCond .eq 23, 3) := by decide +kernel
theorem dX11_which_9 : decode cX11_which 9 = .ok (.iload 4, 2) := by decide +kernel
theorem dX11_which_11 : decode cX11_which 11 = .ok (.iconst 0, 1) := by decide +kernel
theorem dX11_which_12 : decode cX11_which 12 = .ok (.iconst 5, 1) := by decide +kernel
theorem dX11_which_13 : decode cX11_which 13 = .ok (.invokestatic 137, 3) := by decide +kernel
theorem dX11_which_16 : decode cX11_which 16 = .ok (.ifCond .eq 13, 3) := by decide +kernel
theorem dX11_which_19 : decode cX11_which 19 = .ok (.iload 5, 2) := by decide +kernel
theorem dX11_which_21 : decode cX11_which 21 = .ok (.iconst 0, 1) := by decide +kernel
theorem dX11_which_22 : decode cX11_which 22 = .ok (.iconst 1, 1) := by decide +kernel
theorem dX11_which_23 : decode cX11_which 23 = .ok (.invokestatic 137, 3) := by decide +kernel
theorem dX11_which_26 : decode cX11_which 26 = .ok (.ifCond .ne 5, 3) := by decide +kernel
theorem dX11_which_29 : decode cX11_which 29 = .ok (.iconst (-1), 1) := by decide +kernel
theorem dX11_which_30 : decode cX11_which 30 = .ok (.ireturn, 1) := by decide +kernel
theorem dX11_which_31 : decode cX11_which 31 = .ok (.aload_n 0, 1) := by decide +kernel
theorem dX11_which_32 : decode cX11_which 32 = .ok (.getfield 46, 3) := by decide +kernel
theorem dX11_which_35 : decode cX11_which 35 = .ok (.iload_n 1, 1) := by decide +kernel
theorem dX11_which_36 : decode cX11_which 36 = .ok (.aaload, 1) := by decide +kernel
theorem dX11_which_37 : decode cX11_which 37 = .ok (.iload_n 2, 1) := by decide +kernel
theorem dX11_which_38 : decode cX11_which 38 = .ok (.iload_n 3, 1) := by decide +kernel
theorem dX11_which_39 : decode cX11_which 39 = .ok (.aload_n 0, 1) := by decide +kernel
theorem dX11_which_40 : decode cX11_which 40 = .ok (.getfield 25, 3) := by decide +kernel
theorem dX11_which_43 : decode cX11_which 43 = .ok (.iload 4, 2) := by decide +kernel
theorem dX11_which_45 : decode cX11_which 45 = .ok (.aaload, 1) := by decide +kernel
theorem dX11_which_46 : decode cX11_which 46 = .ok (.invokestatic 202, 3) := by decide +kernel
theorem dX11_which_49 : decode cX11_which 49 = .ok (.istore 6, 2) := by decide +kernel
theorem dX11_which_51 : decode cX11_which 51 = .ok (.iload 5, 2) := by decide +kernel
theorem dX11_which_53 : decode cX11_which 53 = .ok (.iconst 1, 1) := by decide +kernel
theorem dX11_which_54 : decode cX11_which 54 = .ok (.if_icmp .ne 6, 3) := by decide +kernel
theorem dX11_which_57 : decode cX11_which 57 = .ok (.iload 6, 2) := by decide +kernel
theorem dX11_which_59 : decode cX11_which 59 = .ok (.ireturn, 1) := by decide +kernel
theorem dX11_which_60 : decode cX11_which 60 = .ok (.iconst 0, 1) := by decide +kernel
theorem dX11_which_61 : decode cX11_which 61 = .ok (.istore 7, 2) := by decide +kernel
theorem dX11_which_63 : decode cX11_which 63 = .ok (.iconst 0, 1) := by decide +kernel
theorem dX11_which_64 : decode cX11_which 64 = .ok (.istore 8, 2) := by decide +kernel
theorem dX11_which_66 : decode cX11_which 66 = .ok (.iload 8, 2) := by decide +kernel
theorem dX11_which_68 : decode cX11_which 68 = .ok (.bipush 6, 2) := by decide +kernel
theorem dX11_which_70 : decode cX11_which 70 = .ok (.if_icmp .ge 32, 3) := by decide +kernel
theorem dX11_which_73 : decode cX11_which 73 = .ok (.iload 7, 2) := by decide +kernel
theorem dX11_which_75 : decode cX11_which 75 = .ok (.aload_n 0, 1) := by decide +kernel
theorem dX11_which_76 : decode cX11_which 76 = .ok (.getfield 46, 3) := by decide +kernel
theorem dX11_which_79 : decode cX11_which 79 = .ok (.iload_n 1, 1) := by decide +kernel
theorem dX11_which_80 : decode cX11_which 80 = .ok (.aaload, 1) := by decide +kernel
theorem dX11_which_81 : decode cX11_which 81 = .ok (.iload_n 2, 1) := by decide +kernel
theorem dX11_which_82 : decode cX11_which 82 = .ok (.iload_n 3, 1) := by decide +kernel
theorem dX11_which_83 : decode cX11_which 83 = .ok (.aload_n 0, 1) := by decide +kernel
theorem dX11_which_84 : decode cX11_which 84 = .ok (.getfield 25, 3) := by decide +kernel
theorem dX11_which_87 : decode cX11_which 87 = .ok (.iload 8, 2) := by decide +kernel
theorem dX11_which_89 : decode cX11_which 89 = .ok (.aaload, 1) := by decide +kernel
theorem dX11_which_90 : decode cX11_which 90 = .ok (.invokestatic 202, 3) := by decide +kernel
theorem dX11_which_93 : decode cX11_which 93 = .ok (.iadd, 1) := by decide +kernel
theorem dX11_which_94 : decode cX11_which 94 = .ok (.istore 7, 2) := by decide +kernel
theorem dX11_which_96 : decode cX11_which 96 = .ok (.iinc 8 1, 3) := by decide +kernel
theorem dX11_which_99 : decode cX11_which 99 = .ok (.goto (-33), 3) := by decide +kernel
theorem dX11_which_102 : decode cX11_which 102 = .ok (.iload 7, 2) := by decide +kernel
theorem dX11_which_104 : decode cX11_which 104 = .ok (.ifCond .ne 7, 3) := by decide +kernel
theorem dX11_which_107 : decode cX11_which 107 = .ok (.iconst (-1), 1) := by decide +kernel
theorem dX11_which_108 : decode cX11_which 108 = .ok (.goto 12, 3) := by decide +kernel
theorem dX11_which_111 : decode cX11_which 111 = .ok (.sipush 1000, 3) := by decide +kernel
theorem dX11_which_114 : decode cX11_which 114 = .ok (.iload 6, 2) := by decide +kernel
theorem dX11_which_116 : decode cX11_which 116 = .ok (.imul, 1) := by decide +kernel
theorem dX11_which_117 : decode cX11_which 117 = .ok (.iload 7, 2) := by decide +kernel
theorem dX11_which_119 : decode cX11_which 119 = .ok (.idiv, 1) := by decide +kernel
theorem dX11_which_120 : decode cX11_which 120 = .ok (.ireturn, 1) := by decide +kernel
theorem dX11_weigh_0 : decode cX11_weigh 0 = .ok (.iconst 1, 1) := by decide +kernel
theorem dX11_weigh_1 : decode cX11_weigh 1 = .ok (.istore 4, 2) := by decide +kernel
theorem dX11_weigh_3 : decode cX11_weigh 3 = .ok (.iconst 0, 1) := by decide +kernel
theorem dX11_weigh_4 : decode cX11_weigh 4 = .ok (.istore 5, 2) := by decide +kernel
theorem dX11_weigh_6 : decode cX11_weigh 6 = .ok (.iload_n 1, 1) := by decide +kernel
theorem dX11_weigh_7 : decode cX11_weigh 7 = .ok (.istore 6, 2) := by decide +kernel
theorem dX11_weigh_9 : decode cX11_weigh 9 = .ok (.iload 6, 2) := by decide +kernel
theorem dX11_weigh_11 : decode cX11_weigh 11 = .ok (.iload_n 2, 1) := by decide +kernel
theorem dX11_weigh_12 : decode cX11_weigh 12 = .ok (.if_icmp .gt 54, 3) := by decide +kernel
theorem dX11_weigh_15 : decode cX11_weigh 15 = .ok (.iload 5, 2) := by decide +kernel
theorem dX11_weigh_17 : decode cX11_weigh 17 = .ok (.bipush 8, 2) := by decide +kernel
theorem dX11_weigh_19 : decode cX11_weigh 19 = .ok (.if_icmp .ge 47, 3) := by decide +kernel
theorem dX11_weigh_22 : decode cX11_weigh 22 = .ok (.aload_n 0, 1) := by decide +kernel
theorem dX11_weigh_23 : decode cX11_weigh 23 = .ok (.getfield 183, 3) := by decide +kernel
theorem dX11_weigh_26 : decode cX11_weigh 26 = .ok (.iconst 5, 1) := by decide +kernel
theorem dX11_weigh_27 : decode cX11_weigh 27 = .ok (.aaload, 1) := by decide +kernel
theorem dX11_weigh_28 : decode cX11_weigh 28 = .ok (.iload 6, 2) := by decide +kernel
theorem dX11_weigh_30 : decode cX11_weigh 30 = .ok (.iaload, 1) := by decide +kernel
theorem dX11_weigh_31 : decode cX11_weigh 31 = .ok (.istore 7, 2) := by decide +kernel
theorem dX11_weigh_33 : decode cX11_weigh 33 = .ok (.iload 7, 2) := by decide +kernel
theorem dX11_weigh_35 : decode cX11_weigh 35 = .ok (.ifCond .eq 25, 3) := by decide +kernel
theorem dX11_weigh_38 : decode cX11_weigh 38 = .ok (.iinc 5 1, 3) := by decide +kernel
theorem dX11_weigh_41 : decode cX11_weigh 41 = .ok (.iload 4, 2) := by decide +kernel
theorem dX11_weigh_43 : decode cX11_weigh 43 = .ok (.aload_n 3, 1) := by decide +kernel
theorem dX11_weigh_44 : decode cX11_weigh 44 = .ok (.iload 7, 2) := by decide +kernel
theorem dX11_weigh_46 : decode cX11_weigh 46 = .ok (.invokevirtual 206, 3) := by decide +kernel
theorem dX11_weigh_49 : decode cX11_weigh 49 = .ok (.ifCond .eq 7, 3) := by decide +kernel
theorem dX11_weigh_52 : decode cX11_weigh 52 = .ok (.iconst 5, 1) := by decide +kernel
theorem dX11_weigh_53 : decode cX11_weigh 53 = .ok (.goto 4, 3) := by decide +kernel
theorem dX11_weigh_56 : decode cX11_weigh 56 = .ok (.iconst 1, 1) := by decide +kernel
theorem dX11_weigh_57 : decode cX11_weigh 57 = .ok (.imul, 1) := by decide +kernel
theorem dX11_weigh_58 : decode cX11_weigh 58 = .ok (.istore 4, 2) := by decide +kernel
theorem dX11_weigh_60 : decode cX11_weigh 60 = .ok (.iinc 6 1, 3) := by decide +kernel
theorem dX11_weigh_63 : decode cX11_weigh 63 = .ok (.goto (-54), 3) := by decide +kernel
theorem dX11_weigh_66 : decode cX11_weigh 66 = .ok (.iload 4, 2) := by decide +kernel
theorem dX11_weigh_68 : decode cX11_weigh 68 = .ok (.ireturn, 1) := by decide +kernel
theorem dX11_slide_0 : decode cX11_slide 0 = .ok (.iload_n 1, 1) := by decide +kernel
theorem dX11_slide_1 : decode cX11_slide 1 = .ok (.iload_n 2, 1) := by decide +kernel
theorem dX11_slide_2 : decode cX11_slide 2 = .ok (.iload_n 3, 1) := by decide +kernel
theorem dX11_slide_3 : decode cX11_slide 3 = .ok (.invokestatic 180, 3) := by decide +kernel
theorem dX11_slide_6 : decode cX11_slide 6 = .ok (.ifCond .eq 53, 3) := by decide +kernel
theorem dX11_slide_9 : decode cX11_slide 9 = .ok (.iload 4, 2) := by decide +kernel
theorem dX11_slide_11 : decode cX11_slide 11 = .ok (.iconst 0, 1) := by decide +kernel
theorem dX11_slide_12 : decode cX11_slide 12 = .ok (.iconst 1, 1) := by decide +kernel
theorem dX11_slide_13 : decode cX11_slide 13 = .ok (.invokestatic 137, 3) := by decide +kernel
theorem dX11_slide_16 : decode cX11_slide 16 = .ok (.ifCond .eq 43, 3) := by decide +kernel
theorem dX11_slide_19 : decode cX11_slide 19 = .ok (.iload 5, 2) := by decide +kernel
theorem dX11_slide_21 : decode cX11_slide 21 = .ok (.bipush 50, 2) := by decide +kernel
theorem dX11_slide_23 : decode cX11_slide 23 = .ok (.sipush 150, 3) := by decide +kernel
theorem dX11_slide_26 : decode cX11_slide 26 = .ok (.invokestatic 137, 3) := by decide +kernel
theorem dX11_slide_29 : decode cX11_slide 29 = .ok (.ifCond .eq 30, 3) := by decide +kernel
theorem dX11_slide_32 : decode cX11_slide 32 = .ok (.iload 6, 2) := by decide +kernel
theorem dX11_slide_34 : decode cX11_slide 34 = .ok (.iconst 0, 1) := by decide +kernel
theorem dX11_slide_35 : decode cX11_slide 35 = .ok (.sipush 9999, 3) := by decide +kernel
theorem dX11_slide_38 : decode cX11_slide 38 = .ok (.invokestatic 137, 3) := by decide +kernel
theorem dX11_slide_41 : decode cX11_slide 41 = .ok (.ifCond .eq 18, 3) := by decide +kernel
theorem dX11_slide_44 : decode cX11_slide 44 = .ok (.iload_n 3, 1) := by decide +kernel
theorem dX11_slide_45 : decode cX11_slide 45 = .ok (.iload_n 2, 1) := by decide +kernel
theorem dX11_slide_46 : decode cX11_slide 46 = .ok (.isub, 1) := by decide +kernel
theorem dX11_slide_47 : decode cX11_slide 47 = .ok (.iconst 1, 1) := by decide +kernel
theorem dX11_slide_48 : decode cX11_slide 48 = .ok (.iadd, 1) := by decide +kernel
theorem dX11_slide_49 : decode cX11_slide 49 = .ok (.aload_n 0, 1) := by decide +kernel
theorem dX11_slide_50 : decode cX11_slide 50 = .ok (.getfield 10, 3) := by decide +kernel
theorem dX11_slide_53 : decode cX11_slide 53 = .ok (.getfield 105, 3) := by decide +kernel
theorem dX11_slide_56 : decode cX11_slide 56 = .ok (.if_icmp .le 5, 3) := by decide +kernel
theorem dX11_slide_59 : decode cX11_slide 59 = .ok (.iconst (-1), 1) := by decide +kernel
theorem dX11_slide_60 : decode cX11_slide 60 = .ok (.ireturn, 1) := by decide +kernel
theorem dX11_slide_61 : decode cX11_slide 61 = .ok (.aload_n 0, 1) := by decide +kernel
theorem dX11_slide_62 : decode cX11_slide 62 = .ok (.getfield 64, 3) := by decide +kernel
theorem dX11_slide_65 : decode cX11_slide 65 = .ok (.aload_n 0, 1) := by decide +kernel
theorem dX11_slide_66 : decode cX11_slide 66 = .ok (.getfield 10, 3) := by decide +kernel
theorem dX11_slide_69 : decode cX11_slide 69 = .ok (.aload_n 0, 1) := by decide +kernel
theorem dX11_slide_70 : decode cX11_slide 70 = .ok (.getfield 46, 3) := by decide +kernel
theorem dX11_slide_73 : decode cX11_slide 73 = .ok (.iload_n 1, 1) := by decide +kernel
theorem dX11_slide_74 : decode cX11_slide 74 = .ok (.aaload, 1) := by decide +kernel
theorem dX11_slide_75 : decode cX11_slide 75 = .ok (.getfield 183, 3) := by decide +kernel
theorem dX11_slide_78 : decode cX11_slide 78 = .ok (.iconst 2, 1) := by decide +kernel
theorem dX11_slide_79 : decode cX11_slide 79 = .ok (.iload 4, 2) := by decide +kernel
theorem dX11_slide_81 : decode cX11_slide 81 = .ok (.iadd, 1) := by decide +kernel
theorem dX11_slide_82 : decode cX11_slide 82 = .ok (.aaload, 1) := by decide +kernel
theorem dX11_slide_83 : decode cX11_slide 83 = .ok (.iload_n 2, 1) := by decide +kernel
theorem dX11_slide_84 : decode cX11_slide 84 = .ok (.iload_n 3, 1) := by decide +kernel
theorem dX11_slide_85 : decode cX11_slide 85 = .ok (.iload 5, 2) := by decide +kernel
theorem dX11_slide_87 : decode cX11_slide 87 = .ok (.iload 6, 2) := by decide +kernel
theorem dX11_slide_89 : decode cX11_slide 89 = .ok (.invokevirtual 209, 3) := by decide +kernel
theorem dX11_slide_92 : decode cX11_slide 92 = .ok (.iload 7, 2) := by decide +kernel
theorem dX11_slide_94 : decode cX11_slide 94 = .ok (.tableswitch 62 0 3 #[30, 38, 46, 54], 30) := by decide +kernel
theorem dX11_slide_124 : decode cX11_slide 124 = .ok (.aload_n 0, 1) := by decide +kernel
theorem dX11_slide_125 : decode cX11_slide 125 = .ok (.getfield 64, 3) := by decide +kernel
theorem dX11_slide_128 : decode cX11_slide 128 = .ok (.getfield 213, 3) := by decide +kernel
theorem dX11_slide_131 : decode cX11_slide 131 = .ok (.ireturn, 1) := by decide +kernel
theorem dX11_slide_132 : decode cX11_slide 132 = .ok (.aload_n 0, 1) := by decide +kernel
theorem dX11_slide_133 : decode cX11_slide 133 = .ok (.getfield 64, 3) := by decide +kernel
theorem dX11_slide_136 : decode cX11_slide 136 = .ok (.getfield 216, 3) := by decide +kernel
theorem dX11_slide_139 : decode cX11_slide 139 = .ok (.ireturn, 1) := by decide +kernel
theorem dX11_slide_140 : decode cX11_slide 140 = .ok (.aload_n 0, 1) := by decide +kernel
theorem dX11_slide_141 : decode cX11_slide 141 = .ok (.getfield 64, 3) := by decide +kernel
theorem dX11_slide_144 : decode cX11_slide 144 = .ok (.getfield 219, 3) := by decide +kernel
theorem dX11_slide_147 : decode cX11_slide 147 = .ok (.ireturn, 1) := by decide +kernel
theorem dX11_slide_148 : decode cX11_slide 148 = .ok (.aload_n 0, 1) := by decide +kernel
theorem dX11_slide_149 : decode cX11_slide 149 = .ok (.getfield 64, 3) := by decide +kernel
theorem dX11_slide_152 : decode cX11_slide 152 = .ok (.getfield 222, 3) := by decide +kernel
theorem dX11_slide_155 : decode cX11_slide 155 = .ok (.ireturn, 1) := by decide +kernel
theorem dX11_slide_156 : decode cX11_slide 156 = .ok (.iconst (-1), 1) := by decide +kernel
theorem dX11_slide_157 : decode cX11_slide 157 = .ok (.ireturn, 1) := by decide +kernel
theorem dX11_need_0 : decode cX11_need 0 = .ok (.iload_n 1, 1) := by decide +kernel
theorem dX11_need_1 : decode cX11_need 1 = .ok (.iload_n 2, 1) := by decide +kernel
theorem dX11_need_2 : decode cX11_need 2 = .ok (.iload_n 3, 1) := by decide +kernel
theorem dX11_need_3 : decode cX11_need 3 = .ok (.invokestatic 180, 3) := by decide +kernel
theorem dX11_need_6 : decode cX11_need 6 = .ok (.ifCond .eq 15, 3) := by decide +kernel
theorem dX11_need_9 : decode cX11_need 9 = .ok (.iload 4, 2) := by decide +kernel
theorem dX11_need_11 : decode cX11_need 11 = .ok (.iconst 0, 1) := by decide +kernel
theorem dX11_need_12 : decode cX11_need 12 = .ok (.sipush 9999, 3) := by decide +kernel
theorem dX11_need_15 : decode cX11_need 15 = .ok (.invokestatic 137, 3) := by decide +kernel
theorem dX11_need_18 : decode cX11_need 18 = .ok (.ifCond .ne 5, 3) := by decide +kernel
theorem dX11_need_21 : decode cX11_need 21 = .ok (.iconst (-1), 1) := by decide +kernel
theorem dX11_need_22 : decode cX11_need 22 = .ok (.ireturn, 1) := by decide +kernel
theorem dX11_need_23 : decode cX11_need 23 = .ok (.aload_n 0, 1) := by decide +kernel
theorem dX11_need_24 : decode cX11_need 24 = .ok (.getfield 64, 3) := by decide +kernel
theorem dX11_need_27 : decode cX11_need 27 = .ok (.aload_n 0, 1) := by decide +kernel
theorem dX11_need_28 : decode cX11_need 28 = .ok (.getfield 10, 3) := by decide +kernel
theorem dX11_need_31 : decode cX11_need 31 = .ok (.aload_n 0, 1) := by decide +kernel
theorem dX11_need_32 : decode cX11_need 32 = .ok (.getfield 46, 3) := by decide +kernel
theorem dX11_need_35 : decode cX11_need 35 = .ok (.iload_n 1, 1) := by decide +kernel
theorem dX11_need_36 : decode cX11_need 36 = .ok (.aaload, 1) := by decide +kernel
theorem dX11_need_37 : decode cX11_need 37 = .ok (.getfield 183, 3) := by decide +kernel
theorem dX11_need_40 : decode cX11_need 40 = .ok (.iconst 2, 1) := by decide +kernel
theorem dX11_need_41 : decode cX11_need 41 = .ok (.aaload, 1) := by decide +kernel
theorem dX11_need_42 : decode cX11_need 42 = .ok (.iload_n 2, 1) := by decide +kernel
theorem dX11_need_43 : decode cX11_need 43 = .ok (.iload_n 3, 1) := by decide +kernel
theorem dX11_need_44 : decode cX11_need 44 = .ok (.iload 4, 2) := by decide +kernel
theorem dX11_need_46 : decode cX11_need 46 = .ok (.invokevirtual 225, 3) := by decide +kernel
theorem dX11_need_49 : decode cX11_need 49 = .ok (.ireturn, 1) := by decide +kernel
theorem dX11_speeds_0 : decode cX11_speeds 0 = .ok (.iload_n 1, 1) := by decide +kernel
theorem dX11_speeds_1 : decode cX11_speeds 1 = .ok (.iload_n 2, 1) := by decide +kernel
theorem dX11_speeds_2 : decode cX11_speeds 2 = .ok (.iload_n 3, 1) := by decide +kernel
theorem dX11_speeds_3 : decode cX11_speeds 3 = .ok (.invokestatic 180, 3) := by decide +kernel
theorem dX11_speeds_6 : decode cX11_speeds 6 = .ok (.ifCond .eq 47, 3) := by decide +kernel
theorem dX11_speeds_9 : decode cX11_speeds 9 = .ok (.iload 4, 2) := by decide +kernel
theorem dX11_speeds_11 : decode cX11_speeds 11 = .ok (.iconst 0, 1) := by decide +kernel
theorem dX11_speeds_12 : decode cX11_speeds 12 = .ok (.aload_n 0, 1) := by decide +kernel
theorem dX11_speeds_13 : decode cX11_speeds 13 = .ok (.getfield 10, 3) := by decide +kernel
theorem dX11_speeds_16 : decode cX11_speeds 16 = .ok (.getfield 105, 3) := by decide +kernel
theorem dX11_speeds_19 : decode cX11_speeds 19 = .ok (.iload_n 3, 1) := by decide +kernel
theorem dX11_speeds_20 : decode cX11_speeds 20 = .ok (.iload_n 2, 1) := by decide +kernel
theorem dX11_speeds_21 : decode cX11_speeds 21 = .ok (.isub, 1) := by decide +kernel
theorem dX11_speeds_22 : decode cX11_speeds 22 = .ok (.iconst 1, 1) := by decide +kernel
theorem dX11_speeds_23 : decode cX11_speeds 23 = .ok (.iadd, 1) := by decide +kernel
theorem dX11_speeds_24 : decode cX11_speeds 24 = .ok (.isub, 1) := by decide +kernel
theorem dX11_speeds_25 : decode cX11_speeds 25 = .ok (.invokestatic 137, 3) := by decide +kernel
theorem dX11_speeds_28 : decode cX11_speeds 28 = .ok (.ifCond .eq 25, 3) := by decide +kernel
theorem dX11_speeds_31 : decode cX11_speeds 31 = .ok (.iload 5, 2) := by decide +kernel
theorem dX11_speeds_33 : decode cX11_speeds 33 = .ok (.iconst 0, 1) := by decide +kernel
theorem dX11_speeds_34 : decode cX11_speeds 34 = .ok (.sipush 9999, 3) := by decide +kernel
theorem dX11_speeds_37 : decode cX11_speeds 37 = .ok (.invokestatic 137, 3) := by decide +kernel
theorem dX11_speeds_40 : decode cX11_speeds 40 = .ok (.ifCond .eq 13, 3) := by decide +kernel
theorem dX11_speeds_43 : decode cX11_speeds 43 = .ok (.iload 6, 2) := by decide +kernel
theorem dX11_speeds_45 : decode cX11_speeds 45 = .ok (.iconst 0, 1) := by decide +kernel
theorem dX11_speeds_46 : decode cX11_speeds 46 = .ok (.iconst 2, 1) := by decide +kernel
theorem dX11_speeds_47 : decode cX11_speeds 47 = .ok (.invokestatic 137, 3) := by decide +kernel
theorem dX11_speeds_50 : decode cX11_speeds 50 = .ok (.ifCond .ne 5, 3) := by decide +kernel
theorem dX11_speeds_53 : decode cX11_speeds 53 = .ok (.iconst (-1), 1) := by decide +kernel
theorem dX11_speeds_54 : decode cX11_speeds 54 = .ok (.ireturn, 1) := by decide +kernel
theorem dX11_speeds_55 : decode cX11_speeds 55 = .ok (.iconst 0, 1) := by decide +kernel
theorem dX11_speeds_56 : decode cX11_speeds 56 = .ok (.istore 7, 2) := by decide +kernel
theorem dX11_speeds_58 : decode cX11_speeds 58 = .ok (.iconst (-1), 1) := by decide +kernel
theorem dX11_speeds_59 : decode cX11_speeds 59 = .ok (.istore 8, 2) := by decide +kernel
theorem dX11_speeds_61 : decode cX11_speeds 61 = .ok (.iconst (-1), 1) := by decide +kernel
theorem dX11_speeds_62 : decode cX11_speeds 62 = .ok (.istore 9, 2) := by decide +kernel
theorem dX11_speeds_64 : decode cX11_speeds 64 = .ok (.bipush 50, 2) := by decide +kernel
theorem dX11_speeds_66 : decode cX11_speeds 66 = .ok (.istore 10, 2) := by decide +kernel
theorem dX11_speeds_68 : decode cX11_speeds 68 = .ok (.iload 10, 2) := by decide +kernel
theorem dX11_speeds_70 : decode cX11_speeds 70 = .ok (.sipush 150, 3) := by decide +kernel
theorem dX11_speeds_73 : decode cX11_speeds 73 = .ok (.if_icmp .gt 60, 3) := by decide +kernel
theorem dX11_speeds_76 : decode cX11_speeds 76 = .ok (.aload_n 0, 1) := by decide +kernel
theorem dX11_speeds_77 : decode cX11_speeds 77 = .ok (.getfield 10, 3) := by decide +kernel
theorem dX11_speeds_80 : decode cX11_speeds 80 = .ok (.iload 4, 2) := by decide +kernel
theorem dX11_speeds_82 : decode cX11_speeds 82 = .ok (.aload_n 0, 1) := by decide +kernel
theorem dX11_speeds_83 : decode cX11_speeds 83 = .ok (.getfield 46, 3) := by decide +kernel
theorem dX11_speeds_86 : decode cX11_speeds 86 = .ok (.iload_n 1, 1) := by decide +kernel
theorem dX11_speeds_87 : decode cX11_speeds 87 = .ok (.aaload, 1) := by decide +kernel
theorem dX11_speeds_88 : decode cX11_speeds 88 = .ok (.getfield 183, 3) := by decide +kernel
theorem dX11_speeds_91 : decode cX11_speeds 91 = .ok (.iconst 2, 1) := by decide +kernel
theorem dX11_speeds_92 : decode cX11_speeds 92 = .ok (.aaload, 1) := by decide +kernel
theorem dX11_speeds_93 : decode cX11_speeds 93 = .ok (.iload_n 2, 1) := by decide +kernel
theorem dX11_speeds_94 : decode cX11_speeds 94 = .ok (.iload_n 3, 1) := by decide +kernel
theorem dX11_speeds_95 : decode cX11_speeds 95 = .ok (.iload 10, 2) := by decide +kernel
theorem dX11_speeds_97 : decode cX11_speeds 97 = .ok (.invokevirtual 229, 3) := by decide +kernel
theorem dX11_speeds_100 : decode cX11_speeds 100 = .ok (.iload 5, 2) := by decide +kernel
theorem dX11_speeds_102 : decode cX11_speeds 102 = .ok (.if_icmp .gt 25, 3) := by decide +kernel
theorem dX11_speeds_105 : decode cX11_speeds 105 = .ok (.iinc 7 1, 3) := by decide +kernel
theorem dX11_speeds_108 : decode cX11_speeds 108 = .ok (.iload 8, 2) := by decide +kernel
theorem dX11_speeds_110 : decode cX11_speeds 110 = .ok (.iconst (-1), 1) := by decide +kernel
theorem dX11_speeds_111 : decode cX11_speeds 111 = .ok (.if_icmp .ne 8, 3) := by decide +kernel
theorem dX11_speeds_114 : decode cX11_speeds 114 = .ok (.iload 10, 2) := by decide +kernel
theorem dX11_speeds_116 : decode cX11_speeds 116 = .ok (.goto 5, 3) := by decide +kernel
theorem dX11_speeds_119 : decode cX11_speeds 119 = .ok (.iload 8, 2) := by decide +kernel
theorem dX11_speeds_121 : decode cX11_speeds 121 = .ok (.istore 8, 2) := by decide +kernel
theorem dX11_speeds_123 : decode cX11_speeds 123 = .ok (.iload 10, 2) := by decide +kernel
theorem dX11_speeds_125 : decode cX11_speeds 125 = .ok (.istore 9, 2) := by decide +kernel
theorem dX11_speeds_127 : decode cX11_speeds 127 = .ok (.iinc 10 1, 3) := by decide +kernel
theorem dX11_speeds_130 : decode cX11_speeds 130 = .ok (.goto (-62), 3) := by decide +kernel
theorem dX11_speeds_133 : decode cX11_speeds 133 = .ok (.iload 6, 2) := by decide +kernel
theorem dX11_speeds_135 : decode cX11_speeds 135 = .ok (.ifCond .ne 6, 3) := by decide +kernel
theorem dX11_speeds_138 : decode cX11_speeds 138 = .ok (.iload 7, 2) := by decide +kernel
theorem dX11_speeds_140 : decode cX11_speeds 140 = .ok (.ireturn, 1) := by decide +kernel
theorem dX11_speeds_141 : decode cX11_speeds 141 = .ok (.iload 6, 2) := by decide +kernel
theorem dX11_speeds_143 : decode cX11_speeds 143 = .ok (.iconst 1, 1) := by decide +kernel
theorem dX11_speeds_144 : decode cX11_speeds 144 = .ok (.if_icmp .ne 8, 3) := by decide +kernel
theorem dX11_speeds_147 : decode cX11_speeds 147 = .ok (.iload 8, 2) := by decide +kernel
theorem dX11_speeds_149 : decode cX11_speeds 149 = .ok (.goto 5, 3) := by decide +kernel
theorem dX11_speeds_152 : decode cX11_speeds 152 = .ok (.iload 9, 2) := by decide +kernel
theorem dX11_speeds_154 : decode cX11_speeds 154 = .ok (.ireturn, 1) := by decide +kernel
theorem dX11_joins_0 : decode cX11_joins 0 = .ok (.iload_n 1, 1) := by decide +kernel
theorem dX11_joins_1 : decode cX11_joins 1 = .ok (.iload_n 2, 1) := by decide +kernel
theorem dX11_joins_2 : decode cX11_joins 2 = .ok (.iload_n 3, 1) := by decide +kernel
theorem dX11_joins_3 : decode cX11_joins 3 = .ok (.invokestatic 180, 3) := by decide +kernel
theorem dX11_joins_6 : decode cX11_joins 6 = .ok (.ifCond .eq 19, 3) := by decide +kernel
theorem dX11_joins_9 : decode cX11_joins 9 = .ok (.iload 4, 2) := by decide +kernel
theorem dX11_joins_11 : decode cX11_joins 11 = .ok (.iconst 0, 1) := by decide +kernel
theorem dX11_joins_12 : decode cX11_joins 12 = .ok (.bipush 63, 2) := by decide +kernel
theorem dX11_joins_14 : decode cX11_joins 14 = .ok (.invokestatic 137, 3) := by decide +kernel
theorem dX11_joins_17 : decode cX11_joins 17 = .ok (.ifCond .eq 8, 3) := by decide +kernel
theorem dX11_joins_20 : decode cX11_joins 20 = .ok (.iload 5, 2) := by decide +kernel
theorem dX11_joins_22 : decode cX11_joins 22 = .ok (.ifCond .ge 5, 3) := by decide +kernel
theorem dX11_joins_25 : decode cX11_joins 25 = .ok (.iconst (-1), 1) := by decide +kernel
theorem dX11_joins_26 : decode cX11_joins 26 = .ok (.ireturn, 1) := by decide +kernel
theorem dX11_joins_27 : decode cX11_joins 27 = .ok (.iconst 0, 1) := by decide +kernel
theorem dX11_joins_28 : decode cX11_joins 28 = .ok (.istore 6, 2) := by decide +kernel
theorem dX11_joins_30 : decode cX11_joins 30 = .ok (.iload_n 2, 1) := by decide +kernel
theorem dX11_joins_31 : decode cX11_joins 31 = .ok (.iconst 1, 1) := by decide +kernel
theorem dX11_joins_32 : decode cX11_joins 32 = .ok (.iadd, 1) := by decide +kernel
theorem dX11_joins_33 : decode cX11_joins 33 = .ok (.istore 7, 2) := by decide +kernel
theorem dX11_joins_35 : decode cX11_joins 35 = .ok (.iload 7, 2) := by decide +kernel
theorem dX11_joins_37 : decode cX11_joins 37 = .ok (.iload_n 3, 1) := by decide +kernel
theorem dX11_joins_38 : decode cX11_joins 38 = .ok (.if_icmp .gt 38, 3) := by decide +kernel
theorem dX11_joins_41 : decode cX11_joins 41 = .ok (.aload_n 0, 1) := by decide +kernel
theorem dX11_joins_42 : decode cX11_joins 42 = .ok (.getfield 46, 3) := by decide +kernel
theorem dX11_joins_45 : decode cX11_joins 45 = .ok (.iload_n 1, 1) := by decide +kernel
theorem dX11_joins_46 : decode cX11_joins 46 = .ok (.aaload, 1) := by decide +kernel
theorem dX11_joins_47 : decode cX11_joins 47 = .ok (.iload 7, 2) := by decide +kernel
theorem dX11_joins_49 : decode cX11_joins 49 = .ok (.iload 4, 2) := by decide +kernel
theorem dX11_joins_51 : decode cX11_joins 51 = .ok (.invokevirtual 233, 3) := by decide +kernel
theorem dX11_joins_54 : decode cX11_joins 54 = .ok (.ifCond .eq 16, 3) := by decide +kernel
theorem dX11_joins_57 : decode cX11_joins 57 = .ok (.iinc 6 1, 3) := by decide +kernel
theorem dX11_joins_60 : decode cX11_joins 60 = .ok (.iload 6, 2) := by decide +kernel
theorem dX11_joins_62 : decode cX11_joins 62 = .ok (.iload 5, 2) := by decide +kernel
theorem dX11_joins_64 : decode cX11_joins 64 = .ok (.if_icmp .ne 6, 3) := by decide +kernel
theorem dX11_joins_67 : decode cX11_joins 67 = .ok (.iload 7, 2) := by decide +kernel
theorem dX11_joins_69 : decode cX11_joins 69 = .ok (.ireturn, 1) := by decide +kernel
theorem dX11_joins_70 : decode cX11_joins 70 = .ok (.iinc 7 1, 3) := by decide +kernel
theorem dX11_joins_73 : decode cX11_joins 73 = .ok (.goto (-38), 3) := by decide +kernel
theorem dX11_joins_76 : decode cX11_joins 76 = .ok (.iload 5, 2) := by decide +kernel
theorem dX11_joins_78 : decode cX11_joins 78 = .ok (.ifCond .ne 8, 3) := by decide +kernel
theorem dX11_joins_81 : decode cX11_joins 81 = .ok (.iload 6, 2) := by decide +kernel
theorem dX11_joins_83 : decode cX11_joins 83 = .ok (.goto 4, 3) := by decide +kernel
theorem dX11_joins_86 : decode cX11_joins 86 = .ok (.iconst (-1), 1) := by decide +kernel
theorem dX11_joins_87 : decode cX11_joins 87 = .ok (.ireturn, 1) := by decide +kernel
theorem dX11_through_0 : decode cX11_through 0 = .ok (.iload_n 1, 1) := by decide +kernel
theorem dX11_through_1 : decode cX11_through 1 = .ok (.iload_n 2, 1) := by decide +kernel
theorem dX11_through_2 : decode cX11_through 2 = .ok (.iload_n 3, 1) := by decide +kernel
theorem dX11_through_3 : decode cX11_through 3 = .ok (.invokestatic 180, 3) := by decide +kernel
theorem dX11_through_6 : decode cX11_through 6 = .ok (.ifCond .ne 5, 3) := by decide +kernel
theorem dX11_through_9 : decode cX11_through 9 = .ok (.iconst (-1), 1) := by decide +kernel
theorem dX11_through_10 : decode cX11_through 10 = .ok (.ireturn, 1) := by decide +kernel
theorem dX11_through_11 : decode cX11_through 11 = .ok (.aload_n 0, 1) := by decide +kernel
theorem dX11_through_12 : decode cX11_through 12 = .ok (.getfield 46, 3) := by decide +kernel
theorem dX11_through_15 : decode cX11_through 15 = .ok (.iload_n 1, 1) := by decide +kernel
theorem dX11_through_16 : decode cX11_through 16 = .ok (.aaload, 1) := by decide +kernel
theorem dX11_through_17 : decode cX11_through 17 = .ok (.astore 4, 2) := by decide +kernel
theorem dX11_through_19 : decode cX11_through 19 = .ok (.iconst 1, 1) := by decide +kernel
theorem dX11_through_20 : decode cX11_through 20 = .ok (.istore 5, 2) := by decide +kernel
theorem dX11_through_22 : decode cX11_through 22 = .ok (.iload_n 2, 1) := by decide +kernel
theorem dX11_through_23 : decode cX11_through 23 = .ok (.istore 6, 2) := by decide +kernel
theorem dX11_through_25 : decode cX11_through 25 = .ok (.iload 6, 2) := by decide +kernel
theorem dX11_through_27 : decode cX11_through 27 = .ok (.iload_n 3, 1) := by decide +kernel
theorem dX11_through_28 : decode cX11_through 28 = .ok (.if_icmp .gt 127, 3) := by decide +kernel
theorem dX11_through_31 : decode cX11_through 31 = .ok (.iload 6, 2) := by decide +kernel
theorem dX11_through_33 : decode cX11_through 33 = .ok (.iload_n 2, 1) := by decide +kernel
theorem dX11_through_34 : decode cX11_through 34 = .ok (.if_icmp .le 18, 3) := by decide +kernel
theorem dX11_through_37 : decode cX11_through 37 = .ok (.aload 4, 2) := by decide +kernel
theorem dX11_through_39 : decode cX11_through 39 = .ok (.iload 6, 2) := by decide +kernel
theorem dX11_through_41 : decode cX11_through 41 = .ok (.iconst 1, 1) := by decide +kernel
theorem dX11_through_42 : decode cX11_through 42 = .ok (.invokevirtual 233, 3) := by decide +kernel
theorem dX11_through_45 : decode cX11_through 45 = .ok (.ifCond .eq 7, 3) := by decide +kernel
theorem dX11_through_48 : decode cX11_through 48 = .ok (.iconst 1, 1) := by decide +kernel
theorem dX11_through_49 : decode cX11_through 49 = .ok (.goto 4, 3) := by decide +kernel
theorem dX11_through_52 : decode cX11_through 52 = .ok (.iconst 0, 1) := by decide +kernel
theorem dX11_through_53 : decode cX11_through 53 = .ok (.istore 7, 2) := by decide +kernel
theorem dX11_through_55 : decode cX11_through 55 = .ok (.iload 6, 2) := by decide +kernel
theorem dX11_through_57 : decode cX11_through 57 = .ok (.iload_n 2, 1) := by decide +kernel
theorem dX11_through_58 : decode cX11_through 58 = .ok (.if_icmp .le 26, 3) := by decide +kernel
theorem dX11_through_61 : decode cX11_through 61 = .ok (.iload 6, 2) := by decide +kernel
theorem dX11_through_63 : decode cX11_through 63 = .ok (.iload_n 3, 1) := by decide +kernel
theorem dX11_through_64 : decode cX11_through 64 = .ok (.if_icmp .ge 20, 3) := by decide +kernel
theorem dX11_through_67 : decode cX11_through 67 = .ok (.aload 4, 2) := by decide +kernel
theorem dX11_through_69 : decode cX11_through 69 = .ok (.getfield 183, 3) := by decide +kernel
theorem dX11_through_72 : decode cX11_through 72 = .ok (.iconst 5, 1) := by decide +kernel
theorem dX11_through_73 : decode cX11_through 73 = .ok (.aaload, 1) := by decide +kernel
theorem dX11_through_74 : decode cX11_through 74 = .ok (.iload 6, 2) := by decide +kernel
theorem dX11_through_76 : decode cX11_through 76 = .ok (.iaload, 1) := by decide +kernel
theorem dX11_through_77 : decode cX11_through 77 = .ok (.ifCond .eq 7, 3) := by decide +kernel
theorem dX11_through_80 : decode cX11_through 80 = .ok (.iconst 1, 1) := by decide +kernel
theorem dX11_through_81 : decode cX11_through 81 = .ok (.goto 4, 3) := by decide +kernel
theorem dX11_through_84 : decode cX11_through 84 = .ok (.iconst 0, 1) := by decide +kernel
theorem dX11_through_85 : decode cX11_through 85 = .ok (.istore 8, 2) := by decide +kernel
theorem dX11_through_87 : decode cX11_through 87 = .ok (.iload 7, 2) := by decide +kernel
theorem dX11_through_89 : decode cX11_through 89 = .ok (.ifCond .ne 18, 3) := by decide +kernel
theorem dX11_through_92 : decode cX11_through 92 = .ok (.iload 8, 2) := by decide +kernel
theorem dX11_through_94 : decode cX11_through 94 = .ok (.ifCond .ne 13, 3) := by decide +kernel
theorem dX11_through_97 : decode cX11_through 97 = .ok (.aload 4, 2) := by decide +kernel
theorem dX11_through_99 : decode cX11_through 99 = .ok (.iload 6, 2) := by decide +kernel
theorem dX11_through_101 : decode cX11_through 101 = .ok (.invokevirtual 187, 3) := by decide +kernel
theorem dX11_through_104 : decode cX11_through 104 = .ok (.ifCond .eq 5, 3) := by decide +kernel
theorem dX11_through_107 : decode cX11_through 107 = .ok (.iconst 0, 1) := by decide +kernel
theorem dX11_through_108 : decode cX11_through 108 = .ok (.ireturn, 1) := by decide +kernel
theorem dX11_through_109 : decode cX11_through 109 = .ok (.iload 5, 2) := by decide +kernel
theorem dX11_through_111 : decode cX11_through 111 = .ok (.ifCond .eq 35, 3) := by decide +kernel
theorem dX11_through_114 : decode cX11_through 114 = .ok (.aload 4, 2) := by decide +kernel
theorem dX11_through_116 : decode cX11_through 116 = .ok (.getfield 183, 3) := by decide +kernel
theorem dX11_through_119 : decode cX11_through 119 = .ok (.iconst 1, 1) := by decide +kernel
theorem dX11_through_120 : decode cX11_through 120 = .ok (.aaload, 1) := by decide +kernel
theorem dX11_through_121 : decode cX11_through 121 = .ok (.iload 6, 2) := by decide +kernel
theorem dX11_through_123 : decode cX11_through 123 = .ok (.iaload, 1) := by decide +kernel
theorem dX11_through_124 : decode cX11_through 124 = .ok (.iconst (-1), 1) := by decide +kernel
theorem dX11_through_125 : decode cX11_through 125 = .ok (.if_icmp .eq 21, 3) := by decide +kernel
theorem dX11_through_128 : decode cX11_through 128 = .ok (.aload 4, 2) := by decide +kernel
theorem dX11_through_130 : decode cX11_through 130 = .ok (.getfield 183, 3) := by decide +kernel
theorem dX11_through_133 : decode cX11_through 133 = .ok (.iconst 2, 1) := by decide +kernel
theorem dX11_through_134 : decode cX11_through 134 = .ok (.aaload, 1) := by decide +kernel
theorem dX11_through_135 : decode cX11_through 135 = .ok (.iload 6, 2) := by decide +kernel
theorem dX11_through_137 : decode cX11_through 137 = .ok (.iaload, 1) := by decide +kernel
theorem dX11_through_138 : decode cX11_through 138 = .ok (.iconst (-1), 1) := by decide +kernel
theorem dX11_through_139 : decode cX11_through 139 = .ok (.if_icmp .eq 7, 3) := by decide +kernel
theorem dX11_through_142 : decode cX11_through 142 = .ok (.iconst 1, 1) := by decide +kernel
theorem dX11_through_143 : decode cX11_through 143 = .ok (.goto 4, 3) := by decide +kernel
theorem dX11_through_146 : decode cX11_through 146 = .ok (.iconst 0, 1) := by decide +kernel
theorem dX11_through_147 : decode cX11_through 147 = .ok (.istore 5, 2) := by decide +kernel
theorem dX11_through_149 : decode cX11_through 149 = .ok (.iinc 6 1, 3) := by decide +kernel
theorem dX11_through_152 : decode cX11_through 152 = .ok (.goto (-127), 3) := by decide +kernel
theorem dX11_through_155 : decode cX11_through 155 = .ok (.iload 5, 2) := by decide +kernel
theorem dX11_through_157 : decode cX11_through 157 = .ok (.ifCond .eq 7, 3) := by decide +kernel
theorem dX11_through_160 : decode cX11_through 160 = .ok (.iconst 2, 1) := by decide +kernel
theorem dX11_through_161 : decode cX11_through 161 = .ok (.goto 4, 3) := by decide +kernel
theorem dX11_through_164 : decode cX11_through 164 = .ok (.iconst 1, 1) := by decide +kernel
theorem dX11_through_165 : decode cX11_through 165 = .ok (.ireturn, 1) := by decide +kernel
theorem dX11_pedal_0 : decode cX11_pedal 0 = .ok (.iload_n 1, 1) := by decide +kernel
theorem dX11_pedal_1 : decode cX11_pedal 1 = .ok (.ifCond .ne 12, 3) := by decide +kernel
theorem dX11_pedal_4 : decode cX11_pedal 4 = .ok (.aload_n 0, 1) := by decide +kernel
theorem dX11_pedal_5 : decode cX11_pedal 5 = .ok (.getfield 78, 3) := by decide +kernel
theorem dX11_pedal_8 : decode cX11_pedal 8 = .ok (.invokevirtual 236, 3) := by decide +kernel
theorem dX11_pedal_11 : decode cX11_pedal 11 = .ok (.iconst 1, 1) := by decide +kernel
theorem dX11_pedal_12 : decode cX11_pedal 12 = .ok (.ireturn, 1) := by decide +kernel
theorem dX11_pedal_13 : decode cX11_pedal 13 = .ok (.iload_n 1, 1) := by decide +kernel
theorem dX11_pedal_14 : decode cX11_pedal 14 = .ok (.iconst (-1), 1) := by decide +kernel
theorem dX11_pedal_15 : decode cX11_pedal 15 = .ok (.if_icmp .ne 12, 3) := by decide +kernel
theorem dX11_pedal_18 : decode cX11_pedal 18 = .ok (.aload_n 0, 1) := by decide +kernel
theorem dX11_pedal_19 : decode cX11_pedal 19 = .ok (.getfield 78, 3) := by decide +kernel
theorem dX11_pedal_22 : decode cX11_pedal 22 = .ok (.iload_n 2, 1) := by decide +kernel
theorem dX11_pedal_23 : decode cX11_pedal 23 = .ok (.invokevirtual 239, 3) := by decide +kernel
theorem dX11_pedal_26 : decode cX11_pedal 26 = .ok (.ireturn, 1) := by decide +kernel
theorem dX11_pedal_27 : decode cX11_pedal 27 = .ok (.aload_n 0, 1) := by decide +kernel
theorem dX11_pedal_28 : decode cX11_pedal 28 = .ok (.getfield 78, 3) := by decide +kernel
theorem dX11_pedal_31 : decode cX11_pedal 31 = .ok (.iload_n 1, 1) := by decide +kernel
theorem dX11_pedal_32 : decode cX11_pedal 32 = .ok (.invokevirtual 242, 3) := by decide +kernel
theorem dX11_pedal_35 : decode cX11_pedal 35 = .ok (.ireturn, 1) := by decide +kernel
theorem dX11_could_0 : decode cX11_could 0 = .ok (.iload_n 1, 1) := by decide +kernel
theorem dX11_could_1 : decode cX11_could 1 = .ok (.iload_n 2, 1) := by decide +kernel
theorem dX11_could_2 : decode cX11_could 2 = .ok (.iload_n 3, 1) := by decide +kernel
theorem dX11_could_3 : decode cX11_could 3 = .ok (.invokestatic 180, 3) := by decide +kernel
theorem dX11_could_6 : decode cX11_could 6 = .ok (.ifCond .eq 13, 3) := by decide +kernel
theorem dX11_could_9 : decode cX11_could 9 = .ok (.iload 4, 2) := by decide +kernel
theorem dX11_could_11 : decode cX11_could 11 = .ok (.iconst 0, 1) := by decide +kernel
theorem dX11_could_12 : decode cX11_could 12 = .ok (.iconst 1, 1) := by decide +kernel
theorem dX11_could_13 : decode cX11_could 13 = .ok (.invokestatic 137, 3) := by decide +kernel
theorem dX11_could_16 : decode cX11_could 16 = .ok (.ifCond .ne 5, 3) := by decide +kernel
theorem dX11_could_19 : decode cX11_could 19 = .ok (.iconst (-1), 1) := by decide +kernel
theorem dX11_could_20 : decode cX11_could 20 = .ok (.ireturn, 1) := by decide +kernel
theorem dX11_could_21 : decode cX11_could 21 = .ok (.aload_n 0, 1) := by decide +kernel
theorem dX11_could_22 : decode cX11_could 22 = .ok (.getfield 78, 3) := by decide +kernel
theorem dX11_could_25 : decode cX11_could 25 = .ok (.aload_n 0, 1) := by decide +kernel
theorem dX11_could_26 : decode cX11_could 26 = .ok (.getfield 46, 3) := by decide +kernel
theorem dX11_could_29 : decode cX11_could 29 = .ok (.iload_n 1, 1) := by decide +kernel
theorem dX11_could_30 : decode cX11_could 30 = .ok (.aaload, 1) := by decide +kernel
theorem dX11_could_31 : decode cX11_could 31 = .ok (.iload_n 2, 1) := by decide +kernel
theorem dX11_could_32 : decode cX11_could 32 = .ok (.iload_n 3, 1) := by decide +kernel
theorem dX11_could_33 : decode cX11_could 33 = .ok (.invokevirtual 245, 3) := by decide +kernel
theorem dX11_could_36 : decode cX11_could 36 = .ok (.istore 5, 2) := by decide +kernel
theorem dX11_could_38 : decode cX11_could 38 = .ok (.iload 4, 2) := by decide +kernel
theorem dX11_could_40 : decode cX11_could 40 = .ok (.iconst 1, 1) := by decide +kernel
theorem dX11_could_41 : decode cX11_could 41 = .ok (.if_icmp .ne 6, 3) := by decide +kernel
theorem dX11_could_44 : decode cX11_could 44 = .ok (.iload 5, 2) := by decide +kernel
theorem dX11_could_46 : decode cX11_could 46 = .ok (.ireturn, 1) := by decide +kernel
theorem dX11_could_47 : decode cX11_could 47 = .ok (.iload 5, 2) := by decide +kernel
theorem dX11_could_49 : decode cX11_could 49 = .ok (.ifCond .ne 28, 3) := by decide +kernel
theorem dX11_could_52 : decode cX11_could 52 = .ok (.aload_n 0, 1) := by decide +kernel
theorem dX11_could_53 : decode cX11_could 53 = .ok (.getfield 46, 3) := by decide +kernel
theorem dX11_could_56 : decode cX11_could 56 = .ok (.iload_n 1, 1) := by decide +kernel
theorem dX11_could_57 : decode cX11_could 57 = .ok (.aaload, 1) := by decide +kernel
theorem dX11_could_58 : decode cX11_could 58 = .ok (.iload_n 2, 1) := by decide +kernel
theorem dX11_could_59 : decode cX11_could 59 = .ok (.iload_n 3, 1) := by decide +kernel
theorem dX11_could_60 : decode cX11_could 60 = .ok (.invokevirtual 248, 3) := by decide +kernel
theorem dX11_could_63 : decode cX11_could 63 = .ok (.aload_n 0, 1) := by decide +kernel
theorem dX11_could_64 : decode cX11_could 64 = .ok (.getfield 78, 3) := by decide +kernel
theorem dX11_could_67 : decode cX11_could 67 = .ok (.getfield 251, 3) := by decide +kernel
theorem dX11_could_70 : decode cX11_could 70 = .ok (.if_icmp .gt 7, 3) := by decide +kernel
theorem dX11_could_73 : decode cX11_could 73 = .ok (.iconst 1, 1) := by decide +kernel
theorem dX11_could_74 : decode cX11_could 74 = .ok (.goto 4, 3) := by decide +kernel
theorem dX11_could_77 : decode cX11_could 77 = .ok (.iconst 0, 1) := by decide +kernel
theorem dX11_could_78 : decode cX11_could 78 = .ok (.ireturn, 1) := by decide +kernel
theorem dX11_alike_0 : decode cX11_alike 0 = .ok (.iload_n 1, 1) := by decide +kernel
theorem dX11_alike_1 : decode cX11_alike 1 = .ok (.iconst 0, 1) := by decide +kernel
theorem dX11_alike_2 : decode cX11_alike 2 = .ok (.iconst 1, 1) := by decide +kernel
theorem dX11_alike_3 : decode cX11_alike 3 = .ok (.invokestatic 137, 3) := by decide +kernel
theorem dX11_alike_6 : decode cX11_alike 6 = .ok (.ifCond .ne 5, 3) := by decide +kernel
theorem dX11_alike_9 : decode cX11_alike 9 = .ok (.iconst (-1), 1) := by decide +kernel
theorem dX11_alike_10 : decode cX11_alike 10 = .ok (.ireturn, 1) := by decide +kernel
theorem dX11_alike_11 : decode cX11_alike 11 = .ok (.iload_n 3, 1) := by decide +kernel
theorem dX11_alike_12 : decode cX11_alike 12 = .ok (.ifCond .ne 23, 3) := by decide +kernel
theorem dX11_alike_15 : decode cX11_alike 15 = .ok (.iload_n 2, 1) := by decide +kernel
theorem dX11_alike_16 : decode cX11_alike 16 = .ok (.iconst 0, 1) := by decide +kernel
theorem dX11_alike_17 : decode cX11_alike 17 = .ok (.iconst 5, 1) := by decide +kernel
theorem dX11_alike_18 : decode cX11_alike 18 = .ok (.invokestatic 137, 3) := by decide +kernel
theorem dX11_alike_21 : decode cX11_alike 21 = .ok (.ifCond .eq 12, 3) := by decide +kernel
theorem dX11_alike_24 : decode cX11_alike 24 = .ok (.aload_n 0, 1) := by decide +kernel
theorem dX11_alike_25 : decode cX11_alike 25 = .ok (.iload_n 1, 1) := by decide +kernel
theorem dX11_alike_26 : decode cX11_alike 26 = .ok (.iload_n 2, 1) := by decide +kernel
theorem dX11_alike_27 : decode cX11_alike 27 = .ok (.invokevirtual 254, 3) := by decide +kernel
theorem dX11_alike_30 : decode cX11_alike 30 = .ok (.goto 4, 3) := by decide +kernel
theorem dX11_alike_33 : decode cX11_alike 33 = .ok (.iconst (-1), 1) := by decide +kernel
theorem dX11_alike_34 : decode cX11_alike 34 = .ok (.ireturn, 1) := by decide +kernel
theorem dX11_alike_35 : decode cX11_alike 35 = .ok (.iload_n 3, 1) := by decide +kernel
theorem dX11_alike_36 : decode cX11_alike 36 = .ok (.iconst 1, 1) := by decide +kernel
theorem dX11_alike_37 : decode cX11_alike 37 = .ok (.if_icmp .eq 5, 3) := by decide +kernel
theorem dX11_alike_40 : decode cX11_alike 40 = .ok (.iconst (-1), 1) := by decide +kernel
theorem dX11_alike_41 : decode cX11_alike 41 = .ok (.ireturn, 1) := by decide +kernel
theorem dX11_alike_42 : decode cX11_alike 42 = .ok (.iconst 0, 1) := by decide +kernel
theorem dX11_alike_43 : decode cX11_alike 43 = .ok (.istore 4, 2) := by decide +kernel
theorem dX11_alike_45 : decode cX11_alike 45 = .ok (.aload_n 0, 1) := by decide +kernel
theorem dX11_alike_46 : decode cX11_alike 46 = .ok (.iload_n 1, 1) := by decide +kernel
theorem dX11_alike_47 : decode cX11_alike 47 = .ok (.iconst 0, 1) := by decide +kernel
theorem dX11_alike_48 : decode cX11_alike 48 = .ok (.invokevirtual 254, 3) := by decide +kernel
theorem dX11_alike_51 : decode cX11_alike 51 = .ok (.istore 5, 2) := by decide +kernel
theorem dX11_alike_53 : decode cX11_alike 53 = .ok (.iconst 1, 1) := by decide +kernel
theorem dX11_alike_54 : decode cX11_alike 54 = .ok (.istore 6, 2) := by decide +kernel
theorem dX11_alike_56 : decode cX11_alike 56 = .ok (.iload 6, 2) := by decide +kernel
theorem dX11_alike_58 : decode cX11_alike 58 = .ok (.bipush 6, 2) := by decide +kernel
theorem dX11_alike_60 : decode cX11_alike 60 = .ok (.if_icmp .ge 63, 3) := by decide +kernel
theorem dX11_alike_63 : decode cX11_alike 63 = .ok (.aload_n 0, 1) := by decide +kernel
theorem dX11_alike_64 : decode cX11_alike 64 = .ok (.iload_n 1, 1) := by decide +kernel
theorem dX11_alike_65 : decode cX11_alike 65 = .ok (.iload 6, 2) := by decide +kernel
theorem dX11_alike_67 : decode cX11_alike 67 = .ok (.invokevirtual 254, 3) := by decide +kernel
theorem dX11_alike_70 : decode cX11_alike 70 = .ok (.istore 7, 2) := by decide +kernel
theorem dX11_alike_72 : decode cX11_alike 72 = .ok (.iload 7, 2) := by decide +kernel
theorem dX11_alike_74 : decode cX11_alike 74 = .ok (.iload 5, 2) := by decide +kernel
theorem dX11_alike_76 : decode cX11_alike 76 = .ok (.if_icmp .gt 33, 3) := by decide +kernel
theorem dX11_alike_79 : decode cX11_alike 79 = .ok (.iload 7, 2) := by decide +kernel
theorem dX11_alike_81 : decode cX11_alike 81 = .ok (.iload 5, 2) := by decide +kernel
theorem dX11_alike_83 : decode cX11_alike 83 = .ok (.if_icmp .ne 34, 3) := by decide +kernel
theorem dX11_alike_86 : decode cX11_alike 86 = .ok (.aload_n 0, 1) := by decide +kernel
theorem dX11_alike_87 : decode cX11_alike 87 = .ok (.getfield 32, 3) := by decide +kernel
theorem dX11_alike_90 : decode cX11_alike 90 = .ok (.iload 6, 2) := by decide +kernel
theorem dX11_alike_92 : decode cX11_alike 92 = .ok (.aaload, 1) := by decide +kernel
theorem dX11_alike_93 : decode cX11_alike 93 = .ok (.getfield 161, 3) := by decide +kernel
theorem dX11_alike_96 : decode cX11_alike 96 = .ok (.aload_n 0, 1) := by decide +kernel
theorem dX11_alike_97 : decode cX11_alike 97 = .ok (.getfield 32, 3) := by decide +kernel
theorem dX11_alike_100 : decode cX11_alike 100 = .ok (.iload 4, 2) := by decide +kernel
theorem dX11_alike_102 : decode cX11_alike 102 = .ok (.aaload, 1) := by decide +kernel
theorem dX11_alike_103 : decode cX11_alike 103 = .ok (.getfield 161, 3) := by decide +kernel
theorem dX11_alike_106 : decode cX11_alike 106 = .ok (.if_icmp .ge 11, 3) := by decide +kernel
theorem dX11_alike_109 : decode cX11_alike 109 = .ok (.iload 6, 2) := by decide +kernel
theorem dX11_alike_111 : decode cX11_alike 111 = .ok (.istore 4, 2) := by decide +kernel
theorem dX11_alike_113 : decode cX11_alike 113 = .ok (.iload 7, 2) := by decide +kernel
theorem dX11_alike_115 : decode cX11_alike 115 = .ok (.istore 5, 2) := by decide +kernel
theorem dX11_alike_117 : decode cX11_alike 117 = .ok (.iinc 6 1, 3) := by decide +kernel
theorem dX11_alike_120 : decode cX11_alike 120 = .ok (.goto (-64), 3) := by decide +kernel
theorem dX11_alike_123 : decode cX11_alike 123 = .ok (.iload 4, 2) := by decide +kernel
theorem dX11_alike_125 : decode cX11_alike 125 = .ok (.ireturn, 1) := by decide +kernel
theorem dX11_likeness_0 : decode cX11_likeness 0 = .ok (.aload_n 0, 1) := by decide +kernel
theorem dX11_likeness_1 : decode cX11_likeness 1 = .ok (.getfield 57, 3) := by decide +kernel
theorem dX11_likeness_4 : decode cX11_likeness 4 = .ok (.aload_n 0, 1) := by decide +kernel
theorem dX11_likeness_5 : decode cX11_likeness 5 = .ok (.getfield 32, 3) := by decide +kernel
theorem dX11_likeness_8 : decode cX11_likeness 8 = .ok (.iload_n 2, 1) := by decide +kernel
theorem dX11_likeness_9 : decode cX11_likeness 9 = .ok (.aaload, 1) := by decide +kernel
theorem dX11_likeness_10 : decode cX11_likeness 10 = .ok (.aload_n 0, 1) := by decide +kernel
theorem dX11_likeness_11 : decode cX11_likeness 11 = .ok (.getfield 25, 3) := by decide +kernel
theorem dX11_likeness_14 : decode cX11_likeness 14 = .ok (.aload_n 0, 1) := by decide +kernel
theorem dX11_likeness_15 : decode cX11_likeness 15 = .ok (.getfield 10, 3) := by decide +kernel
theorem dX11_likeness_18 : decode cX11_likeness 18 = .ok (.aload_n 0, 1) := by decide +kernel
theorem dX11_likeness_19 : decode cX11_likeness 19 = .ok (.getfield 50, 3) := by decide +kernel
theorem dX11_likeness_22 : decode cX11_likeness 22 = .ok (.invokevirtual 172, 3) := by decide +kernel
theorem dX11_likeness_25 : decode cX11_likeness 25 = .ok (.aload_n 0, 1) := by decide +kernel
theorem dX11_likeness_26 : decode cX11_likeness 26 = .ok (.getfield 46, 3) := by decide +kernel
theorem dX11_likeness_29 : decode cX11_likeness 29 = .ok (.iload_n 1, 1) := by decide +kernel
theorem dX11_likeness_30 : decode cX11_likeness 30 = .ok (.aaload, 1) := by decide +kernel
theorem dX11_likeness_31 : decode cX11_likeness 31 = .ok (.aload_n 0, 1) := by decide +kernel
theorem dX11_likeness_32 : decode cX11_likeness 32 = .ok (.getfield 50, 3) := by decide +kernel
theorem dX11_likeness_35 : decode cX11_likeness 35 = .ok (.iload_n 1, 1) := by decide +kernel
theorem dX11_likeness_36 : decode cX11_likeness 36 = .ok (.aaload, 1) := by decide +kernel
theorem dX11_likeness_37 : decode cX11_likeness 37 = .ok (.invokevirtual 257, 3) := by decide +kernel
theorem dX11_likeness_40 : decode cX11_likeness 40 = .ok (.ireturn, 1) := by decide +kernel
theorem dX11_says_0 : decode cX11_says 0 = .ok (.iload_n 1, 1) := by decide +kernel
theorem dX11_says_1 : decode cX11_says 1 = .ok (.iconst 0, 1) := by decide +kernel
theorem dX11_says_2 : decode cX11_says 2 = .ok (.iconst 3, 1) := by decide +kernel
theorem dX11_says_3 : decode cX11_says 3 = .ok (.invokestatic 137, 3) := by decide +kernel
theorem dX11_says_6 : decode cX11_says 6 = .ok (.ifCond .eq 12, 3) := by decide +kernel
theorem dX11_says_9 : decode cX11_says 9 = .ok (.iload_n 2, 1) := by decide +kernel
theorem dX11_says_10 : decode cX11_says 10 = .ok (.iload_n 3, 1) := by decide +kernel
theorem dX11_says_11 : decode cX11_says 11 = .ok (.iload_n 3, 1) := by decide +kernel
theorem dX11_says_12 : decode cX11_says 12 = .ok (.invokestatic 180, 3) := by decide +kernel
theorem dX11_says_15 : decode cX11_says 15 = .ok (.ifCond .ne 5, 3) := by decide +kernel
theorem dX11_says_18 : decode cX11_says 18 = .ok (.iconst (-1), 1) := by decide +kernel
theorem dX11_says_19 : decode cX11_says 19 = .ok (.ireturn, 1) := by decide +kernel
theorem dX11_says_20 : decode cX11_says 20 = .ok (.aload_n 0, 1) := by decide +kernel
theorem dX11_says_21 : decode cX11_says 21 = .ok (.getfield 46, 3) := by decide +kernel
theorem dX11_says_24 : decode cX11_says 24 = .ok (.iload_n 2, 1) := by decide +kernel
theorem dX11_says_25 : decode cX11_says 25 = .ok (.aaload, 1) := by decide +kernel
theorem dX11_says_26 : decode cX11_says 26 = .ok (.iload_n 3, 1) := by decide +kernel
theorem dX11_says_27 : decode cX11_says 27 = .ok (.aload_n 0, 1) := by decide +kernel
theorem dX11_says_28 : decode cX11_says 28 = .ok (.getfield 82, 3) := by decide +kernel
theorem dX11_says_31 : decode cX11_says 31 = .ok (.invokevirtual 261, 3) := by decide +kernel
theorem dX11_says_34 : decode cX11_says 34 = .ok (.aload_n 0, 1) := by decide +kernel
theorem dX11_says_35 : decode cX11_says 35 = .ok (.iload_n 1, 1) := by decide +kernel
theorem dX11_says_36 : decode cX11_says 36 = .ok (.iload 4, 2) := by decide +kernel
theorem dX11_says_38 : decode cX11_says 38 = .ok (.ifCond .eq 7, 3) := by decide +kernel
theorem dX11_says_41 : decode cX11_says 41 = .ok (.iconst 1, 1) := by decide +kernel
theorem dX11_says_42 : decode cX11_says 42 = .ok (.goto 4, 3) := by decide +kernel
theorem dX11_says_45 : decode cX11_says 45 = .ok (.iconst 0, 1) := by decide +kernel
theorem dX11_says_46 : decode cX11_says 46 = .ok (.invokevirtual 265, 3) := by decide +kernel
theorem dX11_says_49 : decode cX11_says 49 = .ok (.ireturn, 1) := by decide +kernel
theorem dX11_judge_0 : decode cX11_judge 0 = .ok (.aload_n 0, 1) := by decide +kernel
theorem dX11_judge_1 : decode cX11_judge 1 = .ok (.getfield 82, 3) := by decide +kernel
theorem dX11_judge_4 : decode cX11_judge 4 = .ok (.bipush 8, 2) := by decide +kernel
theorem dX11_judge_6 : decode cX11_judge 6 = .ok (.iload_n 2, 1) := by decide +kernel
theorem dX11_judge_7 : decode cX11_judge 7 = .ok (.iastore, 1) := by decide +kernel
theorem dX11_judge_8 : decode cX11_judge 8 = .ok (.aload_n 0, 1) := by decide +kernel
theorem dX11_judge_9 : decode cX11_judge 9 = .ok (.getfield 39, 3) := by decide +kernel
theorem dX11_judge_12 : decode cX11_judge 12 = .ok (.iload_n 1, 1) := by decide +kernel
theorem dX11_judge_13 : decode cX11_judge 13 = .ok (.aaload, 1) := by decide +kernel
theorem dX11_judge_14 : decode cX11_judge 14 = .ok (.aload_n 0, 1) := by decide +kernel
theorem dX11_judge_15 : decode cX11_judge 15 = .ok (.getfield 82, 3) := by decide +kernel
theorem dX11_judge_18 : decode cX11_judge 18 = .ok (.invokevirtual 268, 3) := by decide +kernel
theorem dX11_judge_21 : decode cX11_judge 21 = .ok (.ireturn, 1) := by decide +kernel
theorem dX11_reader_0 : decode cX11_reader 0 = .ok (.iload_n 1, 1) := by decide +kernel
theorem dX11_reader_1 : decode cX11_reader 1 = .ok (.iconst 0, 1) := by decide +kernel
theorem dX11_reader_2 : decode cX11_reader 2 = .ok (.iconst 3, 1) := by decide +kernel
theorem dX11_reader_3 : decode cX11_reader 3 = .ok (.invokestatic 137, 3) := by decide +kernel
theorem dX11_reader_6 : decode cX11_reader 6 = .ok (.ifCond .eq 23, 3) := by decide +kernel
theorem dX11_reader_9 : decode cX11_reader 9 = .ok (.iload_n 2, 1) := by decide +kernel
theorem dX11_reader_10 : decode cX11_reader 10 = .ok (.iload_n 3, 1) := by decide +kernel
theorem dX11_reader_11 : decode cX11_reader 11 = .ok (.iload 4, 2) := by decide +kernel
theorem dX11_reader_13 : decode cX11_reader 13 = .ok (.invokestatic 180, 3) := by decide +kernel
theorem dX11_reader_16 : decode cX11_reader 16 = .ok (.ifCond .eq 13, 3) := by decide +kernel
theorem dX11_reader_19 : decode cX11_reader 19 = .ok (.iload 5, 2) := by decide +kernel
theorem dX11_reader_21 : decode cX11_reader 21 = .ok (.iconst 0, 1) := by decide +kernel
theorem dX11_reader_22 : decode cX11_reader 22 = .ok (.iconst 2, 1) := by decide +kernel
theorem dX11_reader_23 : decode cX11_reader 23 = .ok (.invokestatic 137, 3) := by decide +kernel
theorem dX11_reader_26 : decode cX11_reader 26 = .ok (.ifCond .ne 5, 3) := by decide +kernel
theorem dX11_reader_29 : decode cX11_reader 29 = .ok (.iconst (-1), 1) := by decide +kernel
theorem dX11_reader_30 : decode cX11_reader 30 = .ok (.ireturn, 1) := by decide +kernel
theorem dX11_reader_31 : decode cX11_reader 31 = .ok (.iconst 0, 1) := by decide +kernel
theorem dX11_reader_32 : decode cX11_reader 32 = .ok (.istore 6, 2) := by decide +kernel
theorem dX11_reader_34 : decode cX11_reader 34 = .ok (.iload_n 3, 1) := by decide +kernel
theorem dX11_reader_35 : decode cX11_reader 35 = .ok (.istore 7, 2) := by decide +kernel
theorem dX11_reader_37 : decode cX11_reader 37 = .ok (.iload 7, 2) := by decide +kernel
theorem dX11_reader_39 : decode cX11_reader 39 = .ok (.iload 4, 2) := by decide +kernel
theorem dX11_reader_41 : decode cX11_reader 41 = .ok (.if_icmp .gt 44, 3) := by decide +kernel
theorem dX11_reader_44 : decode cX11_reader 44 = .ok (.aload_n 0, 1) := by decide +kernel
theorem dX11_reader_45 : decode cX11_reader 45 = .ok (.getfield 46, 3) := by decide +kernel
theorem dX11_reader_48 : decode cX11_reader 48 = .ok (.iload_n 2, 1) := by decide +kernel
theorem dX11_reader_49 : decode cX11_reader 49 = .ok (.aaload, 1) := by decide +kernel
theorem dX11_reader_50 : decode cX11_reader 50 = .ok (.iload 7, 2) := by decide +kernel
theorem dX11_reader_52 : decode cX11_reader 52 = .ok (.invokevirtual 187, 3) := by decide +kernel
theorem dX11_reader_55 : decode cX11_reader 55 = .ok (.ifCond .ne 24, 3) := by decide +kernel
theorem dX11_reader_58 : decode cX11_reader 58 = .ok (.aload_n 0, 1) := by decide +kernel
theorem dX11_reader_59 : decode cX11_reader 59 = .ok (.iload_n 1, 1) := by decide +kernel
theorem dX11_reader_60 : decode cX11_reader 60 = .ok (.aload_n 0, 1) := by decide +kernel
theorem dX11_reader_61 : decode cX11_reader 61 = .ok (.getfield 46, 3) := by decide +kernel
theorem dX11_reader_64 : decode cX11_reader 64 = .ok (.iload_n 2, 1) := by decide +kernel
theorem dX11_reader_65 : decode cX11_reader 65 = .ok (.aaload, 1) := by decide +kernel
theorem dX11_reader_66 : decode cX11_reader 66 = .ok (.iload 7, 2) := by decide +kernel
theorem dX11_reader_68 : decode cX11_reader 68 = .ok (.iload 5, 2) := by decide +kernel
theorem dX11_reader_70 : decode cX11_reader 70 = .ok (.invokevirtual 271, 3) := by decide +kernel
theorem dX11_reader_73 : decode cX11_reader 73 = .ok (.ifCond .eq 6, 3) := by decide +kernel
theorem dX11_reader_76 : decode cX11_reader 76 = .ok (.iinc 6 1, 3) := by decide +kernel
theorem dX11_reader_79 : decode cX11_reader 79 = .ok (.iinc 7 1, 3) := by decide +kernel
theorem dX11_reader_82 : decode cX11_reader 82 = .ok (.goto (-45), 3) := by decide +kernel
theorem dX11_reader_85 : decode cX11_reader 85 = .ok (.iload 6, 2) := by decide +kernel
theorem dX11_reader_87 : decode cX11_reader 87 = .ok (.ireturn, 1) := by decide +kernel
theorem dX11_counts_0 : decode cX11_counts 0 = .ok (.aload_n 2, 1) := by decide +kernel
theorem dX11_counts_1 : decode cX11_counts 1 = .ok (.iload_n 3, 1) := by decide +kernel
theorem dX11_counts_2 : decode cX11_counts 2 = .ok (.aload_n 0, 1) := by decide +kernel
theorem dX11_counts_3 : decode cX11_counts 3 = .ok (.getfield 82, 3) := by decide +kernel
theorem dX11_counts_6 : decode cX11_counts 6 = .ok (.invokevirtual 261, 3) := by decide +kernel
theorem dX11_counts_9 : decode cX11_counts 9 = .ok (.iload 4, 2) := by decide +kernel
theorem dX11_counts_11 : decode cX11_counts 11 = .ok (.iconst 2, 1) := by decide +kernel
theorem dX11_counts_12 : decode cX11_counts 12 = .ok (.if_icmp .ne 24, 3) := by decide +kernel
theorem dX11_counts_15 : decode cX11_counts 15 = .ok (.aload_n 0, 1) := by decide +kernel
theorem dX11_counts_16 : decode cX11_counts 16 = .ok (.iload_n 1, 1) := by decide +kernel
theorem dX11_counts_17 : decode cX11_counts 17 = .ok (.iconst 0, 1) := by decide +kernel
theorem dX11_counts_18 : decode cX11_counts 18 = .ok (.invokevirtual 265, 3) := by decide +kernel
theorem dX11_counts_21 : decode cX11_counts 21 = .ok (.aload_n 0, 1) := by decide +kernel
theorem dX11_counts_22 : decode cX11_counts 22 = .ok (.iload_n 1, 1) := by decide +kernel
theorem dX11_counts_23 : decode cX11_counts 23 = .ok (.iconst 1, 1) := by decide +kernel
theorem dX11_counts_24 : decode cX11_counts 24 = .ok (.invokevirtual 265, 3) := by decide +kernel
theorem dX11_counts_27 : decode cX11_counts 27 = .ok (.if_icmp .eq 7, 3) := by decide +kernel
theorem dX11_counts_30 : decode cX11_counts 30 = .ok (.iconst 1, 1) := by decide +kernel
theorem dX11_counts_31 : decode cX11_counts 31 = .ok (.goto 4, 3) := by decide +kernel
theorem dX11_counts_34 : decode cX11_counts 34 = .ok (.iconst 0, 1) := by decide +kernel
theorem dX11_counts_35 : decode cX11_counts 35 = .ok (.ireturn, 1) := by decide +kernel
theorem dX11_counts_36 : decode cX11_counts 36 = .ok (.aload_n 0, 1) := by decide +kernel
theorem dX11_counts_37 : decode cX11_counts 37 = .ok (.iload_n 1, 1) := by decide +kernel
theorem dX11_counts_38 : decode cX11_counts 38 = .ok (.iload 4, 2) := by decide +kernel
theorem dX11_counts_40 : decode cX11_counts 40 = .ok (.invokevirtual 265, 3) := by decide +kernel
theorem dX11_counts_43 : decode cX11_counts 43 = .ok (.aload_n 2, 1) := by decide +kernel
theorem dX11_counts_44 : decode cX11_counts 44 = .ok (.iload_n 3, 1) := by decide +kernel
theorem dX11_counts_45 : decode cX11_counts 45 = .ok (.invokevirtual 275, 3) := by decide +kernel
theorem dX11_counts_48 : decode cX11_counts 48 = .ok (.if_icmp .ne 7, 3) := by decide +kernel
theorem dX11_counts_51 : decode cX11_counts 51 = .ok (.iconst 1, 1) := by decide +kernel
theorem dX11_counts_52 : decode cX11_counts 52 = .ok (.goto 4, 3) := by decide +kernel
theorem dX11_counts_55 : decode cX11_counts 55 = .ok (.iconst 0, 1) := by decide +kernel
theorem dX11_counts_56 : decode cX11_counts 56 = .ok (.ireturn, 1) := by decide +kernel
theorem dX11_look_0 : decode cX11_look 0 = .ok (.iload_n 1, 1) := by decide +kernel
theorem dX11_look_1 : decode cX11_look 1 = .ok (.tableswitch 134 0 5 #[39, 47, 60, 73, 78, 104], 39) := by decide +kernel
theorem dX11_look_40 : decode cX11_look 40 = .ok (.aload_n 0, 1) := by decide +kernel
theorem dX11_look_41 : decode cX11_look 41 = .ok (.getfield 10, 3) := by decide +kernel
theorem dX11_look_44 : decode cX11_look 44 = .ok (.getfield 105, 3) := by decide +kernel
theorem dX11_look_47 : decode cX11_look 47 = .ok (.ireturn, 1) := by decide +kernel
theorem dX11_look_48 : decode cX11_look 48 = .ok (.aload_n 0, 1) := by decide +kernel
theorem dX11_look_49 : decode cX11_look 49 = .ok (.getfield 46, 3) := by decide +kernel
theorem dX11_look_52 : decode cX11_look 52 = .ok (.iconst 0, 1) := by decide +kernel
theorem dX11_look_53 : decode cX11_look 53 = .ok (.aaload, 1) := by decide +kernel
theorem dX11_look_54 : decode cX11_look 54 = .ok (.bipush 7, 2) := by decide +kernel
theorem dX11_look_56 : decode cX11_look 56 = .ok (.iconst 0, 1) := by decide +kernel
theorem dX11_look_57 : decode cX11_look 57 = .ok (.invokevirtual 176, 3) := by decide +kernel
theorem dX11_look_60 : decode cX11_look 60 = .ok (.ireturn, 1) := by decide +kernel
theorem dX11_look_61 : decode cX11_look 61 = .ok (.aload_n 0, 1) := by decide +kernel
theorem dX11_look_62 : decode cX11_look 62 = .ok (.getfield 46, 3) := by decide +kernel
theorem dX11_look_65 : decode cX11_look 65 = .ok (.iconst 1, 1) := by decide +kernel
theorem dX11_look_66 : decode cX11_look 66 = .ok (.aaload, 1) := by decide +kernel
theorem dX11_look_67 : decode cX11_look 67 = .ok (.bipush 7, 2) := by decide +kernel
theorem dX11_look_69 : decode cX11_look 69 = .ok (.iconst 0, 1) := by decide +kernel
theorem dX11_look_70 : decode cX11_look 70 = .ok (.invokevirtual 176, 3) := by decide +kernel
theorem dX11_look_73 : decode cX11_look 73 = .ok (.ireturn, 1) := by decide +kernel
theorem dX11_look_74 : decode cX11_look 74 = .ok (.aload_n 0, 1) := by decide +kernel
theorem dX11_look_75 : decode cX11_look 75 = .ok (.getfield 98, 3) := by decide +kernel
theorem dX11_look_78 : decode cX11_look 78 = .ok (.ireturn, 1) := by decide +kernel
theorem dX11_look_79 : decode cX11_look 79 = .ok (.aload_n 0, 1) := by decide +kernel
theorem dX11_look_80 : decode cX11_look 80 = .ok (.getfield 46, 3) := by decide +kernel
theorem dX11_look_83 : decode cX11_look 83 = .ok (.iconst 0, 1) := by decide +kernel
theorem dX11_look_84 : decode cX11_look 84 = .ok (.aaload, 1) := by decide +kernel
theorem dX11_look_85 : decode cX11_look 85 = .ok (.bipush 6, 2) := by decide +kernel
theorem dX11_look_87 : decode cX11_look 87 = .ok (.iconst 0, 1) := by decide +kernel
theorem dX11_look_88 : decode cX11_look 88 = .ok (.invokevirtual 176, 3) := by decide +kernel
theorem dX11_look_91 : decode cX11_look 91 = .ok (.aload_n 0, 1) := by decide +kernel
theorem dX11_look_92 : decode cX11_look 92 = .ok (.getfield 46, 3) := by decide +kernel
theorem dX11_look_95 : decode cX11_look 95 = .ok (.iconst 1, 1) := by decide +kernel
theorem dX11_look_96 : decode cX11_look 96 = .ok (.aaload, 1) := by decide +kernel
theorem dX11_look_97 : decode cX11_look 97 = .ok (.bipush 6, 2) := by decide +kernel
theorem dX11_look_99 : decode cX11_look 99 = .ok (.iconst 0, 1) := by decide +kernel
theorem dX11_look_100 : decode cX11_look 100 = .ok (.invokevirtual 176, 3) := by decide +kernel
theorem dX11_look_103 : decode cX11_look 103 = .ok (.iadd, 1) := by decide +kernel
theorem dX11_look_104 : decode cX11_look 104 = .ok (.ireturn, 1) := by decide +kernel
theorem dX11_look_105 : decode cX11_look 105 = .ok (.sipush 600, 3) := by decide +kernel
theorem dX11_look_108 : decode cX11_look 108 = .ok (.aload_n 0, 1) := by decide +kernel
theorem dX11_look_109 : decode cX11_look 109 = .ok (.getfield 46, 3) := by decide +kernel
theorem dX11_look_112 : decode cX11_look 112 = .ok (.iconst 0, 1) := by decide +kernel
theorem dX11_look_113 : decode cX11_look 113 = .ok (.aaload, 1) := by decide +kernel
theorem dX11_look_114 : decode cX11_look 114 = .ok (.bipush 8, 2) := by decide +kernel
theorem dX11_look_116 : decode cX11_look 116 = .ok (.iconst 3, 1) := by decide +kernel
theorem dX11_look_117 : decode cX11_look 117 = .ok (.invokevirtual 176, 3) := by decide +kernel
theorem dX11_look_120 : decode cX11_look 120 = .ok (.isub, 1) := by decide +kernel
theorem dX11_look_121 : decode cX11_look 121 = .ok (.aload_n 0, 1) := by decide +kernel
theorem dX11_look_122 : decode cX11_look 122 = .ok (.getfield 46, 3) := by decide +kernel
theorem dX11_look_125 : decode cX11_look 125 = .ok (.iconst 1, 1) := by decide +kernel
theorem dX11_look_126 : decode cX11_look 126 = .ok (.aaload, 1) := by decide +kernel
theorem dX11_look_127 : decode cX11_look 127 = .ok (.bipush 8, 2) := by decide +kernel
theorem dX11_look_129 : decode cX11_look 129 = .ok (.iconst 3, 1) := by decide +kernel
theorem dX11_look_130 : decode cX11_look 130 = .ok (.invokevirtual 176, 3) := by decide +kernel
theorem dX11_look_133 : decode cX11_look 133 = .ok (.isub, 1) := by decide +kernel
theorem dX11_look_134 : decode cX11_look 134 = .ok (.ireturn, 1) := by decide +kernel
theorem dX11_look_135 : decode cX11_look 135 = .ok (.iconst (-1), 1) := by decide +kernel
theorem dX11_look_136 : decode cX11_look 136 = .ok (.ireturn, 1) := by decide +kernel
theorem dX11_isWithin_0 : decode cX11_isWithin 0 = .ok (.iload_n 0, 1) := by decide +kernel
theorem dX11_isWithin_1 : decode cX11_isWithin 1 = .ok (.iload_n 1, 1) := by decide +kernel
theorem dX11_isWithin_2 : decode cX11_isWithin 2 = .ok (.if_icmp .lt 12, 3) := by decide +kernel
theorem dX11_isWithin_5 : decode cX11_isWithin 5 = .ok (.iload_n 0, 1) := by decide +kernel
theorem dX11_isWithin_6 : decode cX11_isWithin 6 = .ok (.iload_n 2, 1) := by decide +kernel
theorem dX11_isWithin_7 : decode cX11_isWithin 7 = .ok (.if_icmp .gt 7, 3) := by decide +kernel
theorem dX11_isWithin_10 : decode cX11_isWithin 10 = .ok (.iconst 1, 1) := by decide +kernel
theorem dX11_isWithin_11 : decode cX11_isWithin 11 = .ok (.goto 4, 3) := by decide +kernel
theorem dX11_isWithin_14 : decode cX11_isWithin 14 = .ok (.iconst 0, 1) := by decide +kernel
theorem dX11_isWithin_15 : decode cX11_isWithin 15 = .ok (.ireturn, 1) := by decide +kernel
theorem dX11_isPiece_0 : decode cX11_isPiece 0 = .ok (.iload_n 0, 1) := by decide +kernel
theorem dX11_isPiece_1 : decode cX11_isPiece 1 = .ok (.iconst 0, 1) := by decide +kernel
theorem dX11_isPiece_2 : decode cX11_isPiece 2 = .ok (.iconst 1, 1) := by decide +kernel
theorem dX11_isPiece_3 : decode cX11_isPiece 3 = .ok (.invokestatic 137, 3) := by decide +kernel
theorem dX11_isPiece_6 : decode cX11_isPiece 6 = .ok (.ifCond .eq 23, 3) := by decide +kernel
theorem dX11_isPiece_9 : decode cX11_isPiece 9 = .ok (.iload_n 1, 1) := by decide +kernel
theorem dX11_isPiece_10 : decode cX11_isPiece 10 = .ok (.ifCond .lt 19, 3) := by decide +kernel
theorem dX11_isPiece_13 : decode cX11_isPiece 13 = .ok (.iload_n 1, 1) := by decide +kernel
theorem dX11_isPiece_14 : decode cX11_isPiece 14 = .ok (.iload_n 2, 1) := by decide +kernel
theorem dX11_isPiece_15 : decode cX11_isPiece 15 = .ok (.if_icmp .gt 14, 3) := by decide +kernel
theorem dX11_isPiece_18 : decode cX11_isPiece 18 = .ok (.iload_n 2, 1) := by decide +kernel
theorem dX11_isPiece_19 : decode cX11_isPiece 19 = .ok (.sipush 300, 3) := by decide +kernel
theorem dX11_isPiece_22 : decode cX11_isPiece 22 = .ok (.if_icmp .ge 7, 3) := by decide +kernel
theorem dX11_isPiece_25 : decode cX11_isPiece 25 = .ok (.iconst 1, 1) := by decide +kernel
theorem dX11_isPiece_26 : decode cX11_isPiece 26 = .ok (.goto 4, 3) := by decide +kernel
theorem dX11_isPiece_29 : decode cX11_isPiece 29 = .ok (.iconst 0, 1) := by decide +kernel
theorem dX11_isPiece_30 : decode cX11_isPiece 30 = .ok (.ireturn, 1) := by decide +kernel
